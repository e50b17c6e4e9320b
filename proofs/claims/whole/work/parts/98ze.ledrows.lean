/-! SnakeRow.led in segments: it stops at its throw. -/
def kst (pc : Nat) : Bool := pc == 70
def ksg : Nat → (jmF → Prop) → jmF → Prop
  | 0, _, _ => False
  | n + 1, P, f => (kst f.1 = true ∧ P f) ∨ (kst f.1 = false ∧ ∃ g, jm_nx rn 171 f = some (.inl g) ∧ ksg n P g)
def kto (P : jmF → Prop) (f : jmF) : Prop := ∃ n, ksg n P f
section SEG
variable {P : jmF → Prop} {pc : Nat} {lv : jmL} {st : List jmV} {w : jmW} {o idx : Nat}
theorem kto_stop {f : jmF} (hs : kst f.1 = true) (h : P f) : kto P f := ⟨1, Or.inl ⟨hs, h⟩⟩
theorem kto_nx {f g : jmF} (hs : kst f.1 = false) (h : jm_nx rn 171 f = some (.inl g)) : kto P f = kto P g := by
  refine propext ⟨fun ⟨n, hn⟩ => ?_, fun ⟨n, hn⟩ => ⟨n + 1, Or.inr ⟨hs, g, h, hn⟩⟩⟩
  cases n with
  | zero => exact hn.elim
  | succ n =>
    rcases hn with ⟨h1, -⟩ | ⟨-, g2, h2, h3⟩
    · rw [hs] at h1
      cases h1
    · rw [h] at h2
      cases h2
      exact ⟨n, h3⟩
theorem kto_no {f : jmF} (hs : kst f.1 = false) (h : ∀ g, jm_nx rn 171 f ≠ some (.inl g)) : kto P f = False := by
  refine propext ⟨fun ⟨n, hn⟩ => ?_, fun z => z.elim⟩
  cases n with
  | zero => exact hn
  | succ n =>
    rcases hn with ⟨h1, -⟩ | ⟨-, g2, h2, h3⟩
    · rw [hs] at h1
      cases h1
    · exact h g2 h2
theorem yk_go {ins : Instr} {len : Nat} {g : jmF} (hs : kst pc = false) (hd : jm_dec 171 pc = .ok (ins, len)) (hl : jm_lenok ins len = true) (h : jm_ins 171 ins pc lv st w = some (.inl g)) : kto P (pc, lv, st, w) = kto P g := by
  refine kto_nx hs ?_
  unfold jm_nx
  rw [(q_step hd hl).trans h]
theorem yk_none {ins : Instr} {len : Nat} (hs : kst pc = false) (hd : jm_dec 171 pc = .ok (ins, len)) (hl : jm_lenok ins len = true) (h : jm_ins 171 ins pc lv st w = none) : kto P (pc, lv, st, w) = False := by
  refine kto_no hs (fun g z => ?_)
  unfold jm_nx at z
  rw [(q_step hd hl).trans h] at z
  cases z
def kp_c (P : jmF → Prop) (pc : Nat) (lv : jmL) (rest : List jmV) (o : Option (Option jmV × jmW)) : Prop := match o with
  | some q => ¬ q.1 = some (jvr 0) ∧ kto P (pc, lv, q.1.toList ++ rest, q.2)
  | none => False
theorem kp_c_i (pc : Nat) (lv : jmL) (rest : List jmV) (x : Int) (u : jmW) : kp_c P pc lv rest (some (some (.inl x), u)) = kto P (pc, lv, .inl x :: rest, u) := propext ⟨fun h => h.2, fun h => ⟨fun z => (by cases z), h⟩⟩
theorem kp_c_n (pc : Nat) (lv : jmL) (rest : List jmV) (u : jmW) : kp_c P pc lv rest (some (none, u)) = kto P (pc, lv, rest, u) := propext ⟨fun h => h.2, fun h => ⟨fun z => (by cases z), h⟩⟩
theorem yk_call {ins : Instr} {len j : Nat} {as : List jmV} {g : jmF} (hs : kst pc = false) (hd : jm_dec 171 pc = .ok (ins, len)) (hl : jm_lenok ins len = true) (h : jm_ins 171 ins pc lv st w = some (.inr (.inl (j, as, g)))) : kto P (pc, lv, st, w) = kp_c P g.1 g.2.1 g.2.2.1 (rn j (0, jas 0 as, [], g.2.2.2)) := by
  have hst := (q_step (lv := lv) (st := st) (w := w) hd hl).trans h
  cases hq : rn j (0, jas 0 as, [], g.2.2.2) with
  | none =>
    refine kto_no hs (fun g2 z => ?_)
    unfold jm_nx at z
    simp only [hst, hq] at z
    cases z
  | some q =>
    obtain ⟨r, w1⟩ := q
    by_cases hr : r = some (jvr 0)
    · have e : kp_c P g.1 g.2.1 g.2.2.1 (some (r, w1)) = False := propext ⟨fun z => z.1 hr, fun z => z.elim⟩
      rw [e]
      refine kto_no hs (fun g2 z => ?_)
      unfold jm_nx at z
      simp only [hst, hq, if_pos hr] at z
      cases z
    · have e : kp_c P g.1 g.2.1 g.2.2.1 (some (r, w1)) = kto P (g.1, g.2.1, r.toList ++ g.2.2.1, w1) := propext ⟨fun z => z.2, fun z => ⟨hr, z⟩⟩
      rw [e]
      refine kto_nx hs ?_
      unfold jm_nx
      simp only [hst, hq, if_neg hr]
def kp_ldi (P : jmF → Prop) (p : Nat) (lv : jmL) (st : List jmV) (w : jmW) (o : Option jmV) : Prop := match o with
  | some (.inl x) => kto P (p, lv, .inl x :: st, w)
  | _ => False
def kp_ldl (P : jmF → Prop) (p : Nat) (lv : jmL) (st : List jmV) (w : jmW) (o : Option jmV) : Prop := match o with
  | some (.inr (.inl x)) => kto P (p, lv, .inr (.inl x) :: st, w)
  | _ => False
def kp_lda (P : jmF → Prop) (p : Nat) (lv : jmL) (st : List jmV) (w : jmW) (o : Option jmV) : Prop := match o with
  | some (.inr (.inr x)) => kto P (p, lv, .inr (.inr x) :: st, w)
  | _ => False
def kp_inc (P : jmF → Prop) (p : Nat) (lv : jmL) (z : Nat) (n : Int) (st : List jmV) (w : jmW) (o : Option jmV) : Prop := match o with
  | some (.inl x) => kto P (p, js lv z (.inl (x + n)), st, w)
  | _ => False
theorem kp_ldi_i (p : Nat) (lv : jmL) (st : List jmV) (w : jmW) (x : Int) : kp_ldi P p lv st w (some (.inl x)) = kto P (p, lv, .inl x :: st, w) := rfl
theorem kp_lda_a (p : Nat) (lv : jmL) (st : List jmV) (w : jmW) (x : Option Nat) : kp_lda P p lv st w (some (.inr (.inr x))) = kto P (p, lv, .inr (.inr x) :: st, w) := rfl
theorem kp_inc_i (p : Nat) (lv : jmL) (z : Nat) (n : Int) (st : List jmV) (w : jmW) (x : Int) : kp_inc P p lv z n st w (some (.inl x)) = kto P (p, js lv z (.inl (x + n)), st, w) := rfl
def kp_gb (b : Bool) (P : jmF → Prop) (p : Nat) (lv : jmL) (st : List jmV) (w : jmW) : Prop := b = true ∧ kto P (p, lv, st, w)
theorem kp_gb_t (p : Nat) (lv : jmL) (st : List jmV) (w : jmW) : kp_gb true P p lv st w = kto P (p, lv, st, w) := propext ⟨fun z => z.2, fun z => ⟨rfl, z⟩⟩
def kp_gr (s : Nat × Nat × Nat) (tag : Nat) (j : Int) (P : jmF → Prop) (p : Nat) (lv : jmL) (st : List jmV) (w : jmW) : Prop := ((s.1 = 2 ∨ s.1 = 4) ∧ s.2.1 = tag ∧ jin j s.2.2 = true) ∧ kto P (p, lv, st, w)
theorem kp_gr_4 (tag n : Nat) (j : Int) (p : Nat) (lv : jmL) (st : List jmV) (w : jmW) : kp_gr (4, tag, n) tag j P p lv st w = kp_gb (jin j n) P p lv st w := propext ⟨fun z => ⟨z.1.2.2, z.2⟩, fun z => ⟨⟨Or.inr rfl, rfl, z.1⟩, z.2⟩⟩
def kp_gw (s : Nat × Nat × Nat) (tag : Nat) (j : Int) (P : jmF → Prop) (p : Nat) (lv : jmL) (st : List jmV) (w : jmW) : Prop := (s.1 = 2 ∧ s.2.1 = tag ∧ jin j s.2.2 = true) ∧ kto P (p, lv, st, w)
theorem kp_gw_2 (tag n : Nat) (j : Int) (p : Nat) (lv : jmL) (st : List jmV) (w : jmW) : kp_gw (2, tag, n) tag j P p lv st w = kp_gb (jin j n) P p lv st w := propext ⟨fun z => ⟨z.1.2.2, z.2⟩, fun z => ⟨⟨rfl, rfl, z.1⟩, z.2⟩⟩
def kp_gn (n : Int) (P : jmF → Prop) (p : Nat) (lv : jmL) (st : List jmV) (w : jmW) : Prop := (0 ≤ jw n ∧ jw n ≤ 100000) ∧ kto P (p, lv, st, w)
theorem kp_gn_t {n : Int} (h1 : 0 ≤ n) (h2 : n ≤ 100000) (hw : jw n = n) (p : Nat) (lv : jmL) (st : List jmV) (w : jmW) : kp_gn n P p lv st w = kto P (p, lv, st, w) := propext ⟨fun z => z.2, fun z => ⟨by rw [hw]; exact ⟨h1, h2⟩, z⟩⟩
def kp_cs (s t : Nat × Nat × Nat) (b : Bool) (P : jmF → Prop) (p : Nat) (lv : jmL) (rest : List jmV) (o : Option (Option jmV × jmW)) : Prop := s = t ∧ b = true ∧ kp_c P p lv rest o
theorem kp_cs_t (s : Nat × Nat × Nat) (p : Nat) (lv : jmL) (rest : List jmV) (o : Option (Option jmV × jmW)) : kp_cs s s true P p lv rest o = kp_c P p lv rest o := propext ⟨fun z => z.2.2, fun z => ⟨rfl, rfl, z⟩⟩
theorem yk_iconst {n : Int} (hs : kst pc = false) (hd : jm_dec 171 pc = .ok (.iconst n, 1)) : kto P (pc, lv, st, w) = kto P (pc + 1, lv, .inl n :: st, w) := yk_go hs hd rfl rfl
theorem yk_aload_n {k : Fin 4} {z : Nat} (hs : kst pc = false) (hd : jm_dec 171 pc = .ok (.aload_n k, 1)) (hz : (k : Nat) = z) : kto P (pc, lv, st, w) = kp_lda P (pc + 1) lv st w (jg lv z) := by
  subst hz
  unfold kp_lda
  split
  · rename_i x h
    exact yk_go hs hd rfl (by simp only [jm_ins, h, jgo])
  · rename_i h
    refine yk_none hs hd rfl ?_
    simp only [jm_ins]
theorem yk_iinc {z : Nat} {n : Int} (hs : kst pc = false) (hd : jm_dec 171 pc = .ok (.iinc z n, 3)) (hm : z < jm_m 171) : kto P (pc, lv, st, w) = kp_inc P (pc + 3) lv z n st w (jg lv z) := by
  unfold kp_inc
  split
  · rename_i x h
    exact yk_go hs hd rfl (by simp only [jm_ins, h, jgo, if_pos hm])
  · rename_i h
    refine yk_none hs hd rfl ?_
    simp only [jm_ins]
theorem yk_goto {off : Int} {tgt : Nat} (hs : kst pc = false) (hd : jm_dec 171 pc = .ok (.goto off, 3)) (ht : (pc : Int) + off = (tgt : Int)) : kto P (pc, lv, st, w) = kto P (tgt, lv, st, w) := by
  refine yk_go hs hd rfl ?_
  show jbr pc off 3 true lv st w = _
  rw [jbr_t ht]
  rfl
theorem yk_br {ins : Instr} {off : Int} {tgt : Nat} {b : Bool} {st' : List jmV} {c : Prop} [Decidable c] (hs : kst pc = false) (hd : jm_dec 171 pc = .ok (ins, 3)) (hl : jm_lenok ins 3 = true) (hi : jm_ins 171 ins pc lv st w = jbr pc off 3 b lv st' w) (ht : (pc : Int) + off = (tgt : Int)) (hc : b = true ↔ c) : kto P (pc, lv, st, w) = if c then kto P (tgt, lv, st', w) else kto P (pc + 3, lv, st', w) := by
  have h := yk_go (P := P) (g := (if b = true then tgt else pc + 3, lv, st', w)) hs hd hl (hi.trans (jbr_t ht))
  rw [h]
  by_cases hb : b = true
  · rw [if_pos hb, if_pos (hc.mp hb)]
  · rw [if_neg hb, if_neg (fun z => hb (hc.mpr z))]
theorem yk_icmp_eq {off x y : Int} {tgt : Nat} (hs : kst pc = false) (hd : jm_dec 171 pc = .ok (.if_icmp .eq off, 3)) (ht : (pc : Int) + off = (tgt : Int)) : kto P (pc, lv, .inl y :: .inl x :: st, w) = if jw x = jw y then kto P (tgt, lv, st, w) else kto P (pc + 3, lv, st, w) := yk_br hs hd rfl rfl ht decide_eq_true_iff
theorem yk_icmp_gt {off x y : Int} {tgt : Nat} (hs : kst pc = false) (hd : jm_dec 171 pc = .ok (.if_icmp .gt off, 3)) (ht : (pc : Int) + off = (tgt : Int)) : kto P (pc, lv, .inl y :: .inl x :: st, w) = if jw y < jw x then kto P (tgt, lv, st, w) else kto P (pc + 3, lv, st, w) := yk_br hs hd rfl rfl ht decide_eq_true_iff
theorem yk_if_eq {off x : Int} {tgt : Nat} (hs : kst pc = false) (hd : jm_dec 171 pc = .ok (.ifCond .eq off, 3)) (ht : (pc : Int) + off = (tgt : Int)) : kto P (pc, lv, .inl x :: st, w) = if jw x = 0 then kto P (tgt, lv, st, w) else kto P (pc + 3, lv, st, w) := yk_br hs hd rfl rfl ht decide_eq_true_iff
theorem yk_if_ne {off x : Int} {tgt : Nat} (hs : kst pc = false) (hd : jm_dec 171 pc = .ok (.ifCond .ne off, 3)) (ht : (pc : Int) + off = (tgt : Int)) : kto P (pc, lv, .inl x :: st, w) = if jw x = 0 then kto P (pc + 3, lv, st, w) else kto P (tgt, lv, st, w) := by
  rw [yk_br (P := P) (c := ¬ jw x = 0) hs hd rfl rfl ht decide_eq_true_iff]
  by_cases h : jw x = 0 <;> simp [h]
theorem yk_call0 {ins : Instr} {j n b : Nat} {as as' rest rest' : List jmV} (hs : kst pc = false) (hd : jm_dec 171 pc = .ok (ins, 3)) (hle : jm_lenok ins 3 = true) (hi : jm_ins 171 ins pc lv st w = jm_callv 171 j n (pc + 3) lv as' rest' w) (ha : as' = as) (hr : rest' = jvr b :: rest) (hn : as.length = n) (hc : jm_o j = o) (hf : jm_fit2 171 j = true) (hw : jwd (jvr b :: as) ≤ jm_m j) : kto P (pc, lv, st, w) = kp_cs (mS w b) (1, o, 0) (decide (jwd rest ≤ 8)) P (pc + 3) lv rest (rn j (0, jas 0 (jvr b :: as), [], w)) := by
  subst ha hr hc
  have hf2 := of_decide_eq_true hf
  by_cases h : mS w b = (1, jm_o j, 0)
  · by_cases h8 : jwd rest ≤ 8
    · have e : jm_ins 171 ins pc lv st w = some (.inr (.inl (j, jvr b :: as', (pc + 3, lv, rest, w)))) := by
        refine hi.trans ?_
        show (if mS w b = (1, jm_o j, 0) then jm_call 171 j (n + 1) (pc + 3) lv (jvr b :: as') rest w else none) = _
        rw [if_pos h]
        unfold jm_call jm_fits
        rw [if_pos ⟨by rw [List.length_cons, hn], decide_eq_true ⟨hf2.1, hf2.2, h8⟩, hw⟩]
      rw [yk_call hs hd hle e, decide_eq_true h8]
      exact propext ⟨fun z => ⟨h, rfl, z⟩, fun z => z.2.2⟩
    · rw [decide_eq_false h8]
      rw [yk_none hs hd hle (hi.trans (show (if mS w b = (1, jm_o j, 0) then jm_call 171 j (n + 1) (pc + 3) lv (jvr b :: as') rest w else none) = none by rw [if_pos h]; unfold jm_call jm_fits; rw [if_neg (fun z => h8 (of_decide_eq_true z.2.1).2.2)]))]
      exact propext ⟨fun z => z.elim, fun z => by cases z.2.1⟩
  · rw [yk_none hs hd hle (hi.trans (show (if mS w b = (1, jm_o j, 0) then jm_call 171 j (n + 1) (pc + 3) lv (jvr b :: as') rest w else none) = none by rw [if_neg h]))]
    exact propext ⟨fun z => z.elim, fun z => h z.1⟩
theorem yk_callv {o1 j n b : Nat} {c : Int} {as rest : List jmV} (hs : kst pc = false) (hd : jm_dec 171 pc = .ok (.invokevirtual idx, 3)) (ho : jm_o 171 = o) (hl : jm_lk o idx = (1, j, n, c)) (ha : (st.take n).reverse = as) (hr : st.drop n = jvr b :: rest) (hn : as.length = n) (hc : jm_o j = o1) (hf : jm_fit2 171 j = true) (hw : jwd (jvr b :: as) ≤ jm_m j) : kto P (pc, lv, st, w) = kp_cs (mS w b) (1, o1, 0) (decide (jwd rest ≤ 8)) P (pc + 3) lv rest (rn j (0, jas 0 (jvr b :: as), [], w)) := by
  subst ho
  exact yk_call0 hs hd rfl (by simp only [jm_ins, hl]) ha hr hn hc hf hw
theorem yk_calli {o1 j n b : Nat} {c : Int} {as rest : List jmV} (hs : kst pc = false) (hd : jm_dec 171 pc = .ok (.invokespecial idx, 3)) (ho : jm_o 171 = o) (hl : jm_lk o idx = (3, j, n, c)) (ha : (st.take n).reverse = as) (hr : st.drop n = jvr b :: rest) (hn : as.length = n) (hc : jm_o j = o1) (hf : jm_fit2 171 j = true) (hw : jwd (jvr b :: as) ≤ jm_m j) : kto P (pc, lv, st, w) = kp_cs (mS w b) (1, o1, 0) (decide (jwd rest ≤ 8)) P (pc + 3) lv rest (rn j (0, jas 0 (jvr b :: as), [], w)) := by
  subst ho
  exact yk_call0 hs hd rfl (by simp only [jm_ins, hl]) ha hr hn hc hf hw
theorem yk_iload_n {k : Fin 4} {z : Nat} (hs : kst pc = false) (hd : jm_dec 171 pc = .ok (.iload_n k, 1)) (hz : (k : Nat) = z) : kto P (pc, lv, st, w) = kp_ldi P (pc + 1) lv st w (jg lv z) := by
  subst hz
  unfold kp_ldi
  split
  · rename_i x h
    exact yk_go hs hd rfl (by simp only [jm_ins, h, jgo])
  · rename_i h
    refine yk_none hs hd rfl ?_
    simp only [jm_ins]
theorem yk_istore_n {k : Fin 4} {z : Nat} {x : Int} (hs : kst pc = false) (hd : jm_dec 171 pc = .ok (.istore_n k, 1)) (hz : (k : Nat) = z) (hm : z < jm_m 171) : kto P (pc, lv, .inl x :: st, w) = kto P (pc + 1, js lv z (.inl x), st, w) := by
  subst hz
  exact yk_go hs hd rfl (by simp only [jm_ins, jgo, if_pos hm])
def kp_gs (s t : Nat × Nat × Nat) (P : jmF → Prop) (p : Nat) (lv : jmL) (st : List jmV) (w : jmW) : Prop := s = t ∧ kto P (p, lv, st, w)
theorem kp_gs_t (s : Nat × Nat × Nat) (p : Nat) (lv : jmL) (st : List jmV) (w : jmW) : kp_gs s s P p lv st w = kto P (p, lv, st, w) := propext ⟨fun z => z.2, fun z => ⟨rfl, z⟩⟩
theorem yk_getf {ci k a : Nat} {fin : Int} {v : jmW → Nat → jmV} (hs : kst pc = false) (hd : jm_dec 171 pc = .ok (.getfield idx, 3)) (ho : jm_o 171 = o) (hl : jm_lk o idx = (0, ci, k, fin)) (hv : ∀ w a, jm_fd w a ci k = v w a) : kto P (pc, lv, jvr a :: st, w) = kp_gs (mS w a) (1, ci, 0) P (pc + 3) lv (v w a :: st) w := by
  subst ho
  by_cases h : mS w a = (1, ci, 0)
  · rw [yk_go (P := P) hs hd rfl (show jm_ins 171 (.getfield idx) pc lv (jvr a :: st) w = some (.inl (pc + 3, lv, v w a :: st, w)) by simp only [jm_ins, hl, if_pos h, jgo, hv])]
    exact propext ⟨fun z => ⟨h, z⟩, fun z => z.2⟩
  · rw [yk_none (P := P) hs hd rfl (by simp only [jm_ins, hl, if_neg h])]
    exact propext ⟨fun z => z.elim, fun z => h z.1⟩
theorem yk_icmp_ge {off x y : Int} {tgt : Nat} (hs : kst pc = false) (hd : jm_dec 171 pc = .ok (.if_icmp .ge off, 3)) (ht : (pc : Int) + off = (tgt : Int)) : kto P (pc, lv, .inl y :: .inl x :: st, w) = if jw x < jw y then kto P (pc + 3, lv, st, w) else kto P (tgt, lv, st, w) := by
  rw [yk_br (P := P) (c := jw y ≤ jw x) hs hd rfl rfl ht decide_eq_true_iff]
  by_cases h : jw x < jw y
  · rw [if_pos h, if_neg (by omega)]
  · rw [if_neg h, if_pos (by omega)]
end SEG
theorem k171_0 (P : jmF → Prop) (lv : jmL) (st : List jmV) (w : jmW) : kto P (0, lv, st, w) = kp_ldi P 1 lv st w (jg lv 1) := yk_iload_n (by decide) (jd_of jb_171 dX7_led_0) rfl
theorem k171_1 (P : jmF → Prop) (lv : jmL) (st : List jmV) (w : jmW) (x : Int) : kto P (1, lv, .inl x :: st, w) = kto P (2, js lv 2 (.inl x), st, w) := yk_istore_n (by decide) (jd_of jb_171 dX7_led_1) rfl (by rw [jm_171]; decide)
theorem k171_2 (P : jmF → Prop) (lv : jmL) (st : List jmV) (w : jmW) : kto P (2, lv, st, w) = kto P (3, lv, .inl (0) :: st, w) := yk_iconst (by decide) (jd_of jb_171 dX7_led_2)
theorem k171_3 (P : jmF → Prop) (lv : jmL) (st : List jmV) (w : jmW) (x : Int) : kto P (3, lv, .inl x :: st, w) = kto P (4, js lv 3 (.inl x), st, w) := yk_istore_n (by decide) (jd_of jb_171 dX7_led_3) rfl (by rw [jm_171]; decide)
theorem k171_4 (P : jmF → Prop) (lv : jmL) (st : List jmV) (w : jmW) : kto P (4, lv, st, w) = kp_ldi P 5 lv st w (jg lv 3) := yk_iload_n (by decide) (jd_of jb_171 dX7_led_4) rfl
theorem k171_5 (P : jmF → Prop) (lv : jmL) (st : List jmV) (w : jmW) : kto P (5, lv, st, w) = kp_lda P 6 lv st w (jg lv 0) := yk_aload_n (by decide) (jd_of jb_171 dX7_led_5) rfl
theorem k171_6 (P : jmF → Prop) (lv : jmL) (st : List jmV) (w : jmW) (a : Nat) : kto P (6, lv, jvr a :: st, w) = kp_gs (mS w a) (1, 7, 0) P 9 lv (.inr (.inr (mR w a 5)) :: st) (w) := yk_getf (v := fun w a => .inr (.inr (mR w a 5))) (by decide) (jd_of jb_171 dX7_led_6) jo_171 jk_7_44 (fun _ _ => rfl)
theorem k171_9 (P : jmF → Prop) (lv : jmL) (st : List jmV) (w : jmW) (a : Nat) : kto P (9, lv, jvr a :: st, w) = kp_gs (mS w a) (1, 4, 0) P 12 lv (.inr (.inr (mR w a 1)) :: st) (w) := yk_getf (v := fun w a => .inr (.inr (mR w a 1))) (by decide) (jd_of jb_171 dX7_led_9) jo_171 jk_7_127 (fun _ _ => rfl)
theorem k171_12 (P : jmF → Prop) (lv : jmL) (st : List jmV) (w : jmW) (b : Nat) : kto P (12, lv, jvr b :: st, w) = kp_cs (mS w b) (1, 5, 0) (decide (jwd st ≤ 8)) P 15 lv st (rn 12 (0, [(0, jvr b)], [], w)) := yk_callv (as := []) (rest := st) (by decide) (jd_of jb_171 dX7_led_12) jo_171 jk_7_92 rfl rfl rfl jo_12 jf_171_12 (Nat.le_of_ble_eq_true rfl)
theorem k171_15 (P : jmF → Prop) (lv : jmL) (st : List jmV) (w : jmW) (x y : Int) : kto P (15, lv, .inl y :: .inl x :: st, w) = if jw x < jw y then kto P (18, lv, st, w) else kto P (70, lv, st, w) := yk_icmp_ge (by decide) (jd_of jb_171 dX7_led_15) (by decide)
theorem k171_18 (P : jmF → Prop) (lv : jmL) (st : List jmV) (w : jmW) : kto P (18, lv, st, w) = kp_lda P 19 lv st w (jg lv 0) := yk_aload_n (by decide) (jd_of jb_171 dX7_led_18) rfl
theorem k171_19 (P : jmF → Prop) (lv : jmL) (st : List jmV) (w : jmW) (a : Nat) : kto P (19, lv, jvr a :: st, w) = kp_gs (mS w a) (1, 7, 0) P 22 lv (.inr (.inr (mR w a 2)) :: st) (w) := yk_getf (v := fun w a => .inr (.inr (mR w a 2))) (by decide) (jd_of jb_171 dX7_led_19) jo_171 jk_7_25 (fun _ _ => rfl)
theorem k171_22 (P : jmF → Prop) (lv : jmL) (st : List jmV) (w : jmW) (a : Nat) : kto P (22, lv, jvr a :: st, w) = kp_gs (mS w a) (1, 1, 0) P 25 lv (.inr (.inr (mR w a 0)) :: st) (w) := yk_getf (v := fun w a => .inr (.inr (mR w a 0))) (by decide) (jd_of jb_171 dX7_led_22) jo_171 jk_7_137 (fun _ _ => rfl)
theorem k171_25 (P : jmF → Prop) (lv : jmL) (st : List jmV) (w : jmW) : kto P (25, lv, st, w) = kp_lda P 26 lv st w (jg lv 0) := yk_aload_n (by decide) (jd_of jb_171 dX7_led_25) rfl
theorem k171_26 (P : jmF → Prop) (lv : jmL) (st : List jmV) (w : jmW) (a : Nat) : kto P (26, lv, jvr a :: st, w) = kp_gs (mS w a) (1, 7, 0) P 29 lv (.inr (.inr (mR w a 5)) :: st) (w) := yk_getf (v := fun w a => .inr (.inr (mR w a 5))) (by decide) (jd_of jb_171 dX7_led_26) jo_171 jk_7_44 (fun _ _ => rfl)
theorem k171_29 (P : jmF → Prop) (lv : jmL) (st : List jmV) (w : jmW) : kto P (29, lv, st, w) = kp_ldi P 30 lv st w (jg lv 3) := yk_iload_n (by decide) (jd_of jb_171 dX7_led_29) rfl
theorem k171_30 (P : jmF → Prop) (lv : jmL) (st : List jmV) (w : jmW) (b : Nat) (x1 : Int) : kto P (30, lv, .inl x1 :: jvr b :: st, w) = kp_cs (mS w b) (1, 4, 0) (decide (jwd st ≤ 8)) P 33 lv st (rn 70 (0, [(0, jvr b), (1, .inl x1)], [], w)) := yk_callv (as := [.inl x1]) (rest := st) (by decide) (jd_of jb_171 dX7_led_30) jo_171 jk_7_146 rfl rfl rfl jo_70 jf_171_70 (Nat.le_of_ble_eq_true rfl)
theorem k171_33 (P : jmF → Prop) (lv : jmL) (st : List jmV) (w : jmW) : kto P (33, lv, st, w) = kto P (34, lv, .inl (0) :: st, w) := yk_iconst (by decide) (jd_of jb_171 dX7_led_33)
theorem k171_34 (P : jmF → Prop) (lv : jmL) (st : List jmV) (w : jmW) (b : Nat) (x1 : Int) (x2 : Int) : kto P (34, lv, .inl x2 :: .inl x1 :: jvr b :: st, w) = kp_cs (mS w b) (1, 5, 0) (decide (jwd st ≤ 8)) P 37 lv st (rn 23 (0, [(0, jvr b), (1, .inl x1), (2, .inl x2)], [], w)) := yk_callv (as := [.inl x1, .inl x2]) (rest := st) (by decide) (jd_of jb_171 dX7_led_34) jo_171 jk_7_140 rfl rfl rfl jo_23 jf_171_23 (Nat.le_of_ble_eq_true rfl)
theorem k171_37 (P : jmF → Prop) (lv : jmL) (st : List jmV) (w : jmW) : kto P (37, lv, st, w) = kto P (38, lv, .inl (1) :: st, w) := yk_iconst (by decide) (jd_of jb_171 dX7_led_37)
theorem k171_38 (P : jmF → Prop) (lv : jmL) (st : List jmV) (w : jmW) (x y : Int) : kto P (38, lv, .inl y :: .inl x :: st, w) = if jw x = jw y then kto P (44, lv, st, w) else kto P (41, lv, st, w) := yk_icmp_eq (by decide) (jd_of jb_171 dX7_led_38) (by decide)
theorem k171_41 (P : jmF → Prop) (lv : jmL) (st : List jmV) (w : jmW) : kto P (41, lv, st, w) = kto P (64, lv, st, w) := yk_goto (by decide) (jd_of jb_171 dX7_led_41) (by decide)
theorem k171_44 (P : jmF → Prop) (lv : jmL) (st : List jmV) (w : jmW) : kto P (44, lv, st, w) = kp_ldi P 45 lv st w (jg lv 2) := yk_iload_n (by decide) (jd_of jb_171 dX7_led_44) rfl
theorem k171_45 (P : jmF → Prop) (lv : jmL) (st : List jmV) (w : jmW) (x : Int) : kto P (45, lv, .inl x :: st, w) = if jw x = 0 then kto P (48, lv, st, w) else kto P (61, lv, st, w) := yk_if_ne (by decide) (jd_of jb_171 dX7_led_45) (by decide)
theorem k171_48 (P : jmF → Prop) (lv : jmL) (st : List jmV) (w : jmW) : kto P (48, lv, st, w) = kp_lda P 49 lv st w (jg lv 0) := yk_aload_n (by decide) (jd_of jb_171 dX7_led_48) rfl
theorem k171_49 (P : jmF → Prop) (lv : jmL) (st : List jmV) (w : jmW) (a : Nat) : kto P (49, lv, jvr a :: st, w) = kp_gs (mS w a) (1, 7, 0) P 52 lv (.inr (.inr (mR w a 5)) :: st) (w) := yk_getf (v := fun w a => .inr (.inr (mR w a 5))) (by decide) (jd_of jb_171 dX7_led_49) jo_171 jk_7_44 (fun _ _ => rfl)
theorem k171_52 (P : jmF → Prop) (lv : jmL) (st : List jmV) (w : jmW) (a : Nat) : kto P (52, lv, jvr a :: st, w) = kp_gs (mS w a) (1, 4, 0) P 55 lv (.inr (.inr (mR w a 1)) :: st) (w) := yk_getf (v := fun w a => .inr (.inr (mR w a 1))) (by decide) (jd_of jb_171 dX7_led_52) jo_171 jk_7_127 (fun _ _ => rfl)
theorem k171_55 (P : jmF → Prop) (lv : jmL) (st : List jmV) (w : jmW) : kto P (55, lv, st, w) = kp_ldi P 56 lv st w (jg lv 3) := yk_iload_n (by decide) (jd_of jb_171 dX7_led_55) rfl
theorem k171_56 (P : jmF → Prop) (lv : jmL) (st : List jmV) (w : jmW) : kto P (56, lv, st, w) = kto P (57, lv, .inl (0) :: st, w) := yk_iconst (by decide) (jd_of jb_171 dX7_led_56)
theorem k171_57 (P : jmF → Prop) (lv : jmL) (st : List jmV) (w : jmW) (b : Nat) (x1 : Int) (x2 : Int) : kto P (57, lv, .inl x2 :: .inl x1 :: jvr b :: st, w) = kp_cs (mS w b) (1, 5, 0) (decide (jwd st ≤ 8)) P 60 lv st (rn 23 (0, [(0, jvr b), (1, .inl x1), (2, .inl x2)], [], w)) := yk_callv (as := [.inl x1, .inl x2]) (rest := st) (by decide) (jd_of jb_171 dX7_led_57) jo_171 jk_7_140 rfl rfl rfl jo_23 jf_171_23 (Nat.le_of_ble_eq_true rfl)
theorem k171_61 (P : jmF → Prop) (lv : jmL) (st : List jmV) (w : jmW) : kto P (61, lv, st, w) = kp_inc P 64 lv 2 (-1) st w (jg lv 2) := yk_iinc (by decide) (jd_of jb_171 dX7_led_61) (by rw [jm_171]; decide)
theorem k171_64 (P : jmF → Prop) (lv : jmL) (st : List jmV) (w : jmW) : kto P (64, lv, st, w) = kp_inc P 67 lv 3 (1) st w (jg lv 3) := yk_iinc (by decide) (jd_of jb_171 dX7_led_64) (by rw [jm_171]; decide)
theorem k171_67 (P : jmF → Prop) (lv : jmL) (st : List jmV) (w : jmW) : kto P (67, lv, st, w) = kto P (4, lv, st, w) := yk_goto (by decide) (jd_of jb_171 dX7_led_67) (by decide)
section LEDT
variable {w : jmW} {r : Nat → Int} {H : Nat → Nat → Int} {B x : Int} {P : jmF → Prop}
theorem led_kp (h : cO w H r) (hk : HOK H) (ri : RI H B r) {i : Int} (x1 : -2147483648 ≤ i) (x2 : i < 2147483648) (hP : ∀ lv, P (70, lv, [], w)) : ∀ (n : Nat) (k c : Int), 0 ≤ k → k + n = r 289 → 0 ≤ c → c ≤ k → gLe H r i n k c = none → kto P (4, [(0, jvr 64), (1, .inl i), (2, .inl (i - c)), (3, .inl k)], [], w) := by
  obtain ⟨ra, rb, rw0, rp, r3⟩ := ri
  have kc := hk.1.2.2.2.2.2
  have h16 := ra.1
  have e0 := cr_n h.cr (by omega)
  intro n
  induction n with
  | zero =>
    intro k c k1 k2 c1 c2 hg
    rw [k171_4]
    simp (disch := omega) only [k171_0, k171_1, k171_2, k171_3, k171_5, k171_6, k171_9, k171_12, k171_15, k171_18, k171_19, k171_22, k171_25, k171_26, k171_29, k171_30, k171_33, k171_34, k171_37, k171_38, k171_41, k171_44, k171_45, k171_48, k171_49, k171_52, k171_55, k171_56, k171_57, k171_61, k171_64, k171_67, jwd_c, jwd_0, Nat.reduceLeDiff, Nat.reduceEqDiff, Nat.reduceAdd, Nat.reduceSub, Nat.reduceMul, Int.reduceAdd, Int.reduceSub, Int.reduceMul, Int.reduceNeg, Int.reduceEq, Int.reduceLT, Int.reduceLE, jg_c, jg_n, js_c, js_n, jrm_c, jrm_n, j2_i, j2_l, j2_a, jwd_le, jw_c0, mS_I, mS_R, mS_J, mN_I, mN_R, mN_J, mR_I, mI_R, mJ_I, mJ_R, mI_J, mR_J, ↓reduceIte, decide_true, or_true, true_or, and_self, false_or, or_false, reduceCtorEq, Bool.false_eq_true, and_false, false_and, eq_self, true_and, and_true, zero_ne, kp_ldi_i, kp_lda_a, kp_inc_i, kp_gs_t, kp_cs_t, kp_c_i, kp_c_n, ↓br_lt_t, ↓br_lt_f, ↓br_eq_t, ↓br_eq_f, ↓br_lz_t, ↓br_lz_f, ↓br_ez_t, ↓br_ez_f, ↓br_gz_t, ↓br_gz_f, jw_id, jin_t, jix_t, cO.s h, cO.r0 h, cO.r1 h, cO.r2 h, cO.r3 h, cO.r4 h, cO.r5 h, cO.r6 h, cO.r7 h, cO.r8 h, cO.r9 h, cO.r10 h, cO.o h, cO.x111 h, cO.x111p h, cO.x111k h, cO.x111t h, cO.x112 h, cO.x114 h, cO.x116 h, cO.x118 h, cO.x84 h, cO.x84r0 h, cO.x84r1 h, cO.x84r2 h, cO.x84r3 h, cO.x84r4 h, cO.x84r5 h, cO.x84r6 h, cO.x84r7 h, cO.x85 h, cO.x87 h, cO.x89 h, cO.x91 h, cO.x93 h, cO.x95 h, cO.x97 h, cO.x99 h, cO.x84f8 h, cO.x84f9 h, cO.x84f10 h, cO.x84f11 h, cO.x84f12 h, cO.x84f14 h, cO.x84f15 h, cO.x84f16 h, cO.x84f17 h, e0]
    exact kto_stop rfl (hP _)
  | succ n ih =>
    intro k c k1 k2 c1 c2 hg
    have e : gLe H r i (n + 1) k c = if H 17 (gCell r k).toNat = 1 then (if c = i then some (r (204 + k).toNat) else gLe H r i n (k + 1) (c + 1)) else gLe H r i n (k + 1) c := rfl
    have e1 := r_cell h.cr ra rb (i := k) k1 (by omega)
    have c0 := RC rb rw0 (i := k) k1 (by omega)
    rw [e] at hg
    generalize gCell r k = C at *
    have e3 := sg_in h.ch.g1 (l := C) (k := 0) c0.1 (by omega) (by omega) (by omega)
    have kg := hk.2.2.2.1 C c0.1 c0.2.1
    have z0 := jw_z0 (z := i - c) (by omega) (by omega)
    by_cases q : H 17 C.toNat = 1
    · rw [if_pos q] at hg
      by_cases q2 : c = i
      · rw [if_pos q2] at hg
        cases hg
      · rw [if_neg q2] at hg
        have hh := ih (k + 1) (c + 1) (by omega) (by omega) (by omega) (by omega) hg
        have z1 : (i - c = 0) = False := by
          apply propext
          constructor
          · intro y
            omega
          · exact False.elim
        rw [z1] at z0
        rw [k171_4]
        simp (disch := omega) only [k171_0, k171_1, k171_2, k171_3, k171_5, k171_6, k171_9, k171_12, k171_15, k171_18, k171_19, k171_22, k171_25, k171_26, k171_29, k171_30, k171_33, k171_34, k171_37, k171_38, k171_41, k171_44, k171_45, k171_48, k171_49, k171_52, k171_55, k171_56, k171_57, k171_61, k171_64, k171_67, jwd_c, jwd_0, Nat.reduceLeDiff, Nat.reduceEqDiff, Nat.reduceAdd, Nat.reduceSub, Nat.reduceMul, Int.reduceAdd, Int.reduceSub, Int.reduceMul, Int.reduceNeg, Int.reduceEq, Int.reduceLT, Int.reduceLE, jg_c, jg_n, js_c, js_n, jrm_c, jrm_n, j2_i, j2_l, j2_a, jwd_le, jw_c0, mS_I, mS_R, mS_J, mN_I, mN_R, mN_J, mR_I, mI_R, mJ_I, mJ_R, mI_J, mR_J, ↓reduceIte, decide_true, or_true, true_or, and_self, false_or, or_false, reduceCtorEq, Bool.false_eq_true, and_false, false_and, eq_self, true_and, and_true, zero_ne, kp_ldi_i, kp_lda_a, kp_inc_i, kp_gs_t, kp_cs_t, kp_c_i, kp_c_n, ↓br_lt_t, ↓br_lt_f, ↓br_eq_t, ↓br_eq_f, ↓br_lz_t, ↓br_lz_f, ↓br_ez_t, ↓br_ez_f, ↓br_gz_t, ↓br_gz_f, jw_id, jin_t, jix_t, cO.s h, cO.r0 h, cO.r1 h, cO.r2 h, cO.r3 h, cO.r4 h, cO.r5 h, cO.r6 h, cO.r7 h, cO.r8 h, cO.r9 h, cO.r10 h, cO.o h, cO.x111 h, cO.x111p h, cO.x111k h, cO.x111t h, cO.x112 h, cO.x114 h, cO.x116 h, cO.x118 h, cO.x84 h, cO.x84r0 h, cO.x84r1 h, cO.x84r2 h, cO.x84r3 h, cO.x84r4 h, cO.x84r5 h, cO.x84r6 h, cO.x84r7 h, cO.x85 h, cO.x87 h, cO.x89 h, cO.x91 h, cO.x93 h, cO.x95 h, cO.x97 h, cO.x99 h, cO.x84f8 h, cO.x84f9 h, cO.x84f10 h, cO.x84f11 h, cO.x84f12 h, cO.x84f14 h, cO.x84f15 h, cO.x84f16 h, cO.x84f17 h, e0, e1, e3, z0, if_false]
        rw [show i - c + -1 = i - (c + 1) by omega]
        exact hh
    · rw [if_neg q] at hg
      have hh := ih (k + 1) c (by omega) (by omega) (by omega) (by omega) hg
      rw [k171_4]
      simp (disch := omega) only [k171_0, k171_1, k171_2, k171_3, k171_5, k171_6, k171_9, k171_12, k171_15, k171_18, k171_19, k171_22, k171_25, k171_26, k171_29, k171_30, k171_33, k171_34, k171_37, k171_38, k171_41, k171_44, k171_45, k171_48, k171_49, k171_52, k171_55, k171_56, k171_57, k171_61, k171_64, k171_67, jwd_c, jwd_0, Nat.reduceLeDiff, Nat.reduceEqDiff, Nat.reduceAdd, Nat.reduceSub, Nat.reduceMul, Int.reduceAdd, Int.reduceSub, Int.reduceMul, Int.reduceNeg, Int.reduceEq, Int.reduceLT, Int.reduceLE, jg_c, jg_n, js_c, js_n, jrm_c, jrm_n, j2_i, j2_l, j2_a, jwd_le, jw_c0, mS_I, mS_R, mS_J, mN_I, mN_R, mN_J, mR_I, mI_R, mJ_I, mJ_R, mI_J, mR_J, ↓reduceIte, decide_true, or_true, true_or, and_self, false_or, or_false, reduceCtorEq, Bool.false_eq_true, and_false, false_and, eq_self, true_and, and_true, zero_ne, kp_ldi_i, kp_lda_a, kp_inc_i, kp_gs_t, kp_cs_t, kp_c_i, kp_c_n, ↓br_lt_t, ↓br_lt_f, ↓br_eq_t, ↓br_eq_f, ↓br_lz_t, ↓br_lz_f, ↓br_ez_t, ↓br_ez_f, ↓br_gz_t, ↓br_gz_f, jw_id, jin_t, jix_t, cO.s h, cO.r0 h, cO.r1 h, cO.r2 h, cO.r3 h, cO.r4 h, cO.r5 h, cO.r6 h, cO.r7 h, cO.r8 h, cO.r9 h, cO.r10 h, cO.o h, cO.x111 h, cO.x111p h, cO.x111k h, cO.x111t h, cO.x112 h, cO.x114 h, cO.x116 h, cO.x118 h, cO.x84 h, cO.x84r0 h, cO.x84r1 h, cO.x84r2 h, cO.x84r3 h, cO.x84r4 h, cO.x84r5 h, cO.x84r6 h, cO.x84r7 h, cO.x85 h, cO.x87 h, cO.x89 h, cO.x91 h, cO.x93 h, cO.x95 h, cO.x97 h, cO.x99 h, cO.x84f8 h, cO.x84f9 h, cO.x84f10 h, cO.x84f11 h, cO.x84f12 h, cO.x84f14 h, cO.x84f15 h, cO.x84f16 h, cO.x84f17 h, e0, e1, e3]
      exact hh
theorem led_k (h : cO w H r) (hk : HOK H) (ri : RI H B r) {i : Int} (x1 : -2147483648 ≤ i) (x2 : i < 2147483648) (hP : ∀ lv, P (70, lv, [], w)) (hg : gLe H r i (r 289).toNat 0 0 = none) : kto P (0, [(0, jvr 64), (1, .inl i)], [], w) := by
  have h16 := ri.1.1
  have hh := led_kp h hk ri x1 x2 hP (r 289).toNat 0 0 (by omega) (by omega) (by omega) (by omega) hg
  rw [Int.sub_zero] at hh
  simp (disch := omega) only [k171_0, k171_1, k171_2, k171_3, k171_5, k171_6, k171_9, k171_12, k171_15, k171_18, k171_19, k171_22, k171_25, k171_26, k171_29, k171_30, k171_33, k171_34, k171_37, k171_38, k171_41, k171_44, k171_45, k171_48, k171_49, k171_52, k171_55, k171_56, k171_57, k171_61, k171_64, k171_67, jwd_c, jwd_0, Nat.reduceLeDiff, Nat.reduceEqDiff, Nat.reduceAdd, Nat.reduceSub, Nat.reduceMul, Int.reduceAdd, Int.reduceSub, Int.reduceMul, Int.reduceNeg, Int.reduceEq, Int.reduceLT, Int.reduceLE, jg_c, jg_n, js_c, js_n, jrm_c, jrm_n, j2_i, j2_l, j2_a, jwd_le, jw_c0, mS_I, mS_R, mS_J, mN_I, mN_R, mN_J, mR_I, mI_R, mJ_I, mJ_R, mI_J, mR_J, ↓reduceIte, decide_true, or_true, true_or, and_self, false_or, or_false, reduceCtorEq, Bool.false_eq_true, and_false, false_and, eq_self, true_and, and_true, zero_ne, kp_ldi_i, kp_lda_a, kp_inc_i, kp_gs_t, kp_cs_t, kp_c_i, kp_c_n, ↓br_lt_t, ↓br_lt_f, ↓br_eq_t, ↓br_eq_f, ↓br_lz_t, ↓br_lz_f, ↓br_ez_t, ↓br_ez_f, ↓br_gz_t, ↓br_gz_f, jw_id, jin_t, jix_t]
  exact hh
theorem led_n (h : nH w) (x1 : -2147483648 ≤ x) (x2 : x < 2147483648) (hP : ∀ lv, P (70, lv, [], w)) : kto P (0, [(0, jvr 64), (1, .inl x)], [], w) := by
  have s := h.1.s
  have r5 := h.1.r5
  obtain ⟨-, o, ⟨T, c, r, x111, q⟩, -, -⟩ := h
  have x0 := x111.s0
  have xk := x111.k
  have x3 := x111.s3
  have e := sg_count x111.k5
  rw [q] at e
  have e : rn 12 (0, [(0, jvr 114)], [], w) = some (some (.inl 0), w) := e
  have xk : mR w 111 1 = some 114 := xk
  have x3 : mS w 114 = (1, 5, 0) := x3
  simp (disch := omega) only [k171_4, k171_0, k171_1, k171_2, k171_3, k171_5, k171_6, k171_9, k171_12, k171_15, k171_18, k171_19, k171_22, k171_25, k171_26, k171_29, k171_30, k171_33, k171_34, k171_37, k171_38, k171_41, k171_44, k171_45, k171_48, k171_49, k171_52, k171_55, k171_56, k171_57, k171_61, k171_64, k171_67, jwd_c, jwd_0, Nat.reduceLeDiff, Nat.reduceEqDiff, Nat.reduceAdd, Nat.reduceSub, Nat.reduceMul, Int.reduceAdd, Int.reduceSub, Int.reduceMul, Int.reduceNeg, Int.reduceEq, Int.reduceLT, Int.reduceLE, jg_c, jg_n, js_c, js_n, jrm_c, jrm_n, j2_i, j2_l, j2_a, jwd_le, jw_c0, mS_I, mS_R, mS_J, mN_I, mN_R, mN_J, mR_I, mI_R, mJ_I, mJ_R, mI_J, mR_J, ↓reduceIte, decide_true, or_true, true_or, and_self, false_or, or_false, reduceCtorEq, Bool.false_eq_true, and_false, false_and, eq_self, true_and, and_true, zero_ne, kp_ldi_i, kp_lda_a, kp_inc_i, kp_gs_t, kp_cs_t, kp_c_i, kp_c_n, ↓br_lt_t, ↓br_lt_f, ↓br_eq_t, ↓br_eq_f, ↓br_lz_t, ↓br_lz_f, ↓br_ez_t, ↓br_ez_f, ↓br_gz_t, ↓br_gz_f, jw_id, jin_t, jix_t, s, r5, x0, xk, x3, e]
  exact kto_stop rfl (hP _)
end LEDT
