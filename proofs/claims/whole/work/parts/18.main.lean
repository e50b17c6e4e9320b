/-! Every run of the small machine is a run of the machine. -/
def jm_isO (i : Nat) (ins : Instr) (pc : Nat) (lv : jmL) (st : List jmV) (w : jmW) (o : jmA) : Prop := match o with
  | .inl _ => True
  | .inr (.inl q) => (∃ idx j n z, ins = .invokevirtual idx ∧ jm_lk (jm_o i) idx = (1, j, n, z) ∧ jm_callv i j n (pc + 3) lv (st.take n).reverse (st.drop n) w = some (.inr (.inl q))) ∨ (∃ idx j n z, ins = .invokespecial idx ∧ jm_lk (jm_o i) idx = (3, j, n, z) ∧ jm_callv i j n (pc + 3) lv (st.take n).reverse (st.drop n) w = some (.inr (.inl q))) ∨ (∃ idx j n z, ins = .invokestatic idx ∧ jm_lk (jm_o i) idx = (2, j, n, z) ∧ jm_call i j n (pc + 3) lv (st.take n).reverse (st.drop n) w = some (.inr (.inl q)))
  | .inr (.inr r) => (ins = .ireturn ∧ ∃ x, st = [.inl x] ∧ jrok i x = true ∧ r = some (.inl x)) ∨ (ins = .lreturn ∧ ∃ x, st = [.inr (.inl x)] ∧ jm_r i = some .long ∧ r = some (.inr (.inl x))) ∨ (ins = .areturn ∧ ∃ x, st = [.inr (.inr x)] ∧ jm_r i = some (.object RX4) ∧ r = some (.inr (.inr x))) ∨ (ins = .return_ ∧ st = [] ∧ jm_r i = none ∧ r = none) ∨ ((∃ idx a b z, ins = .new idx ∧ jm_lk (jm_o i) idx = (14, a, b, z)) ∧ r = some (jvr 0))
theorem jbr_isO {i : Nat} {ins : Instr} {pc : Nat} {off : Int} {n : Nat} {b : Bool} {lv : jmL} {st st2 : List jmV} {w : jmW} {o : jmA} (h : jbr pc off n b lv st2 w = some o) : jm_isO i ins pc lv st w o := by
  unfold jbr jgo at h
  split at h
  · cases h
    exact trivial
  · cases h
set_option maxHeartbeats 2000000 in
theorem jm_ins_isO {i : Nat} {ins : Instr} {pc : Nat} {lv : jmL} {st : List jmV} {w : jmW} {o : jmA} (h : jm_ins i ins pc lv st w = some o) : jm_isO i ins pc lv st w o := by
  by_cases h1 : ∃ idx, ins = .invokevirtual idx
  · obtain ⟨idx, rfl⟩ := h1
    generalize hq : jm_lk (jm_o i) idx = r at h
    simp only [jm_ins, jgo, hq] at h
    split at h
    · rename_i j n z
      rcases o with g | q | r2
      · exact trivial
      · exact Or.inl ⟨idx, j, n, z, rfl, hq, h⟩
      · unfold jm_callv jm_call at h
        repeat' split at h
        all_goals cases h
    · split at h
      · cases h
        exact trivial
      · cases h
    · split at h
      · cases h
        exact trivial
      · cases h
    · cases h
  by_cases h2 : ∃ idx, ins = .invokespecial idx
  · obtain ⟨idx, rfl⟩ := h2
    generalize hq : jm_lk (jm_o i) idx = r at h
    simp only [jm_ins, jgo, hq] at h
    split at h
    · rename_i j n z
      rcases o with g | q | r2
      · exact trivial
      · exact Or.inr (Or.inl ⟨idx, j, n, z, rfl, hq, h⟩)
      · unfold jm_callv jm_call at h
        repeat' split at h
        all_goals cases h
    · split at h
      · cases h
        exact trivial
      · cases h
    · cases h
  by_cases h3 : ∃ idx, ins = .invokestatic idx
  · obtain ⟨idx, rfl⟩ := h3
    generalize hq : jm_lk (jm_o i) idx = r at h
    simp only [jm_ins, jgo, hq] at h
    split at h
    · rename_i j n z
      rcases o with g | q | r2
      · exact trivial
      · exact Or.inr (Or.inr ⟨idx, j, n, z, rfl, hq, h⟩)
      · unfold jm_call at h
        repeat' split at h
        all_goals cases h
    · split at h
      · cases h
        exact trivial
      · cases h
    · cases h
  by_cases h4 : ∃ idx, ins = .new idx
  · obtain ⟨idx, rfl⟩ := h4
    generalize hq : jm_lk (jm_o i) idx = r at h
    simp only [jm_ins, jgo, hq] at h
    split at h
    · split at h
      · cases h
        exact trivial
      · cases h
    · cases h
      exact Or.inr (Or.inr (Or.inr (Or.inr ⟨⟨idx, _, _, _, rfl, hq⟩, rfl⟩)))
    · cases h
  unfold jm_ins at h
  split at h
  all_goals (try simp only [jgo] at h)
  all_goals (try (repeat' split at h))
  all_goals first
    | exact jbr_isO h
    | (cases h; done)
    | (cases h; exact trivial)
    | (rename_i hr; cases h; exact Or.inl ⟨rfl, _, rfl, hr, rfl⟩)
    | (rename_i hr; cases h; exact Or.inr (Or.inl ⟨rfl, _, rfl, hr, rfl⟩))
    | (rename_i hr; cases h; exact Or.inr (Or.inr (Or.inl ⟨rfl, _, rfl, hr, rfl⟩)))
    | (rename_i hr; cases h; exact Or.inr (Or.inr (Or.inr (Or.inl ⟨rfl, rfl, hr, rfl⟩))))
    | exact absurd ⟨_, rfl⟩ h1
    | exact absurd ⟨_, rfl⟩ h2
    | exact absurd ⟨_, rfl⟩ h3
    | exact absurd ⟨_, rfl⟩ h4
theorem jm_step_inv {i : Nat} {f : jmF} {o : jmA} (h : jm_step i f = some o) : ∃ ins len, decode (jm_b i) f.1 = .ok (ins, len) ∧ jm_lenok ins len = true ∧ jm_ins i ins f.1 f.2.1 f.2.2.1 f.2.2.2 = some o := by
  unfold jm_step at h
  split at h
  · rename_i ins len hd
    split at h
    · rename_i hl
      exact ⟨ins, len, hd, hl, h⟩
    · cases h
  · cases h
theorem jm_callv_ni {i j n pc : Nat} {lv : jmL} {as rest : List jmV} {w : jmW} {g : jmF} (h : jm_callv i j n pc lv as rest w = some (.inl g)) : False := by
  unfold jm_callv jm_call at h
  repeat' split at h
  all_goals cases h
theorem jm_call_ni {i j n pc : Nat} {lv : jmL} {as rest : List jmV} {w : jmW} {g : jmF} (h : jm_call i j n pc lv as rest w = some (.inl g)) : False := by
  unfold jm_call at h
  repeat' split at h
  all_goals cases h
theorem jm_ln {b : ByteArray} {pc len n : Nat} {ins : Instr} (hd : decode b pc = .ok (ins, len)) (h : len = n) : decode b pc = .ok (ins, n) := h ▸ hd
theorem jm_call_inv {i j n pc j2 : Nat} {lv : jmL} {as rest as2 : List jmV} {w : jmW} {pc2 : Nat} {lv2 : jmL} {st2 : List jmV} {w2 : jmW} (h : jm_call i j n pc lv as rest w = some (.inr (.inl (j2, as2, (pc2, lv2, st2, w2))))) : j = j2 ∧ as = as2 ∧ pc = pc2 ∧ lv = lv2 ∧ rest = st2 ∧ as.length = n ∧ decide (jm_f j2 + 1 ≤ jm_f i ∧ 8 + (jm_m j2 + 11) + jm_l j2 ≤ jm_l i ∧ jwd st2 ≤ 8) = true ∧ jwd as2 ≤ jm_m j2 := by
  unfold jm_call at h
  split at h
  · rename_i hc
    cases h
    exact ⟨rfl, rfl, rfl, rfl, rfl, hc.1, hc.2.1, hc.2.2⟩
  · cases h
theorem jm_callv_inv {i j n pc : Nat} {lv : jmL} {as rest : List jmV} {w : jmW} {o : jmA} (h : jm_callv i j n pc lv as rest w = some o) : ∃ b t, rest = jvr b :: t ∧ mS w b = (1, jm_o j, 0) ∧ jm_call i j (n + 1) pc lv (jvr b :: as) t w = some o := by
  unfold jm_callv at h
  split at h
  · rename_i b t
    split at h
    · rename_i hS
      exact ⟨b, t, rfl, hS, h⟩
    · cases h
  · cases h
section MAIN
variable {D : va_G} {cA : Nat → ClassId} {ad adV : Nat → Nat} {B : Nat} {H0 : Heap} {p : Program} {l : Launch} {e : Env} {R : Room} {s : State} {m : MethodId} {args : Array Value} {below : List Frame} {meth : Method} {c : Code} {Q : State → Prop} {i n0 k0 : Nat}
set_option maxHeartbeats 2000000 in
theorem jm_one {f g : jmF} (hs : jm_step i f = some (.inl g)) (X : jm_X D cA ad adV B H0 p R s m args meth c i) (hgN : mN g.2.2.2 ≤ n0 + R.cells) (hgK : mK g.2.2.2 ≤ k0 + R.slots) (k : jm_C D cA ad B H0 p l e R s m args below meth c Q i n0 k0 g) : jm_C D cA ad B H0 p l e R s m args below meth c Q i n0 k0 f := by
  obtain ⟨ins, len, hd, hl, h⟩ := jm_step_inv hs
  obtain ⟨pc, lv, st, w⟩ := f
  simp only at hd h
  cases ins
  case iconst n => exact o_iconst X (jm_ln hd (of_decide_eq_true hl)) h k
  case bipush n => exact o_bipush X (jm_ln hd (of_decide_eq_true hl)) h k
  case sipush n => exact o_sipush X (jm_ln hd (of_decide_eq_true hl)) h k
  case lconst n => exact o_lconst X (jm_ln hd (of_decide_eq_true hl)) h k
  case aconst_null => exact o_aconst_null X (jm_ln hd (of_decide_eq_true hl)) h k
  case iload_n z => exact o_iload_n X (jm_ln hd (of_decide_eq_true hl)) h k
  case iload z => exact o_iload X (jm_ln hd (of_decide_eq_true hl)) h k
  case lload_n z => exact o_lload_n X (jm_ln hd (of_decide_eq_true hl)) h k
  case lload z => exact o_lload X (jm_ln hd (of_decide_eq_true hl)) h k
  case aload_n z => exact o_aload_n X (jm_ln hd (of_decide_eq_true hl)) h k
  case aload z => exact o_aload X (jm_ln hd (of_decide_eq_true hl)) h k
  case istore_n z => exact o_istore_n X (jm_ln hd (of_decide_eq_true hl)) h k
  case istore z => exact o_istore X (jm_ln hd (of_decide_eq_true hl)) h k
  case lstore_n z => exact o_lstore_n X (jm_ln hd (of_decide_eq_true hl)) h k
  case lstore z => exact o_lstore X (jm_ln hd (of_decide_eq_true hl)) h k
  case astore_n z => exact o_astore_n X (jm_ln hd (of_decide_eq_true hl)) h k
  case astore z => exact o_astore X (jm_ln hd (of_decide_eq_true hl)) h k
  case iinc z n => exact o_iinc X (jm_ln hd (of_decide_eq_true hl)) h k
  case dup => exact o_dup X (jm_ln hd (of_decide_eq_true hl)) h k
  case dup2 => exact o_dup2 X (jm_ln hd (of_decide_eq_true hl)) h k
  case pop => exact o_pop X (jm_ln hd (of_decide_eq_true hl)) h k
  case iadd => exact o_iadd X (jm_ln hd (of_decide_eq_true hl)) h k
  case isub => exact o_isub X (jm_ln hd (of_decide_eq_true hl)) h k
  case imul => exact o_imul X (jm_ln hd (of_decide_eq_true hl)) h k
  case idiv => exact o_idiv X (jm_ln hd (of_decide_eq_true hl)) h k
  case irem => exact o_irem X (jm_ln hd (of_decide_eq_true hl)) h k
  case iand => exact o_iand X (jm_ln hd (of_decide_eq_true hl)) h k
  case ior => exact o_ior X (jm_ln hd (of_decide_eq_true hl)) h k
  case ixor => exact o_ixor X (jm_ln hd (of_decide_eq_true hl)) h k
  case ishl => exact o_ishl X (jm_ln hd (of_decide_eq_true hl)) h k
  case ishr => exact o_ishr X (jm_ln hd (of_decide_eq_true hl)) h k
  case iushr => exact o_iushr X (jm_ln hd (of_decide_eq_true hl)) h k
  case ineg => exact o_ineg X (jm_ln hd (of_decide_eq_true hl)) h k
  case i2c => exact o_i2c X (jm_ln hd (of_decide_eq_true hl)) h k
  case i2b => exact o_i2b X (jm_ln hd (of_decide_eq_true hl)) h k
  case i2l => exact o_i2l X (jm_ln hd (of_decide_eq_true hl)) h k
  case l2i => exact o_l2i X (jm_ln hd (of_decide_eq_true hl)) h k
  case ladd => exact o_ladd X (jm_ln hd (of_decide_eq_true hl)) h k
  case lmul => exact o_lmul X (jm_ln hd (of_decide_eq_true hl)) h k
  case lrem => exact o_lrem X (jm_ln hd (of_decide_eq_true hl)) h k
  case lcmp => exact o_lcmp X (jm_ln hd (of_decide_eq_true hl)) h k
  case goto off => exact o_goto X (jm_ln hd (of_decide_eq_true hl)) h k
  case ifnull off => exact o_ifnull X (jm_ln hd (of_decide_eq_true hl)) h k
  case ifnonnull off => exact o_ifnonnull X (jm_ln hd (of_decide_eq_true hl)) h k
  case ldc idx => exact o_ldc X (jm_ln hd (of_decide_eq_true hl)) h k
  case ldc_w idx => exact o_ldc_w X (jm_ln hd (of_decide_eq_true hl)) h k
  case ldc2_w idx => exact o_ldc2_w X (jm_ln hd (of_decide_eq_true hl)) h k
  case getstatic idx => exact o_getstatic X (jm_ln hd (of_decide_eq_true hl)) h k
  case getfield idx => exact o_getfield X (jm_ln hd (of_decide_eq_true hl)) h k
  case putfield idx => exact o_putfield X (jm_ln hd (of_decide_eq_true hl)) h k
  case arraylength => exact o_arraylength X (jm_ln hd (of_decide_eq_true hl)) h k
  case iaload => exact o_iaload X (jm_ln hd (of_decide_eq_true hl)) h k
  case baload => exact o_baload X (jm_ln hd (of_decide_eq_true hl)) h k
  case laload => exact o_laload X (jm_ln hd (of_decide_eq_true hl)) h k
  case aaload => exact o_aaload X (jm_ln hd (of_decide_eq_true hl)) h k
  case iastore => exact o_iastore X (jm_ln hd (of_decide_eq_true hl)) h k
  case bastore => exact o_bastore X (jm_ln hd (of_decide_eq_true hl)) h k
  case lastore => exact o_lastore X (jm_ln hd (of_decide_eq_true hl)) h k
  case aastore => exact o_aastore X (jm_ln hd (of_decide_eq_true hl)) h k
  case new idx => exact o_new X (jm_ln hd (of_decide_eq_true hl)) h hgN hgK k
  case newarray ty => exact o_newarray X (jm_ln hd (of_decide_eq_true hl)) h hgN hgK k
  case anewarray idx => exact o_anewarray X (jm_ln hd (of_decide_eq_true hl)) h hgN hgK k
  case if_icmp cd off =>
    cases cd
    case eq => exact o_icmp_eq X (jm_ln hd (of_decide_eq_true hl)) h k
    case ne => exact o_icmp_ne X (jm_ln hd (of_decide_eq_true hl)) h k
    case lt => exact o_icmp_lt X (jm_ln hd (of_decide_eq_true hl)) h k
    case ge => exact o_icmp_ge X (jm_ln hd (of_decide_eq_true hl)) h k
    case gt => exact o_icmp_gt X (jm_ln hd (of_decide_eq_true hl)) h k
    case le => exact o_icmp_le X (jm_ln hd (of_decide_eq_true hl)) h k
  case ifCond cd off =>
    cases cd
    case eq => exact o_if_eq X (jm_ln hd (of_decide_eq_true hl)) h k
    case ne => exact o_if_ne X (jm_ln hd (of_decide_eq_true hl)) h k
    case lt => exact o_if_lt X (jm_ln hd (of_decide_eq_true hl)) h k
    case ge => exact o_if_ge X (jm_ln hd (of_decide_eq_true hl)) h k
    case gt => exact o_if_gt X (jm_ln hd (of_decide_eq_true hl)) h k
    case le => exact o_if_le X (jm_ln hd (of_decide_eq_true hl)) h k
  case tableswitch d lo hi offs => exact o_table X hd h k
  case invokevirtual idx =>
    generalize hq : jm_lk (jm_o i) idx = r
    obtain ⟨kd, a, b, z⟩ := r
    by_cases h11 : kd = 11
    · subst h11
      exact o_strlen hq X (jm_ln hd (of_decide_eq_true hl)) h hgN hgK k
    by_cases h12 : kd = 12
    · subst h12
      exact o_strchar hq X (jm_ln hd (of_decide_eq_true hl)) h hgN hgK k
    simp only [jm_ins, jgo, hq] at h
    split at h
    · exact (jm_callv_ni h).elim
    · exact absurd rfl h11
    · exact absurd rfl h12
    · cases h
  case invokespecial idx => exact o_objinit X (jm_ln hd (of_decide_eq_true hl)) h k
  case invokestatic idx =>
    generalize hq : jm_lk (jm_o i) idx = r
    obtain ⟨kd, a, b, z⟩ := r
    by_cases h13 : kd = 13
    · subst h13
      exact o_copy hq X (jm_ln hd (of_decide_eq_true hl)) h k
    simp only [jm_ins, jgo, hq] at h
    split at h
    · exact (jm_call_ni h).elim
    · exact absurd rfl h13
    · cases h
  case ireturn =>
    simp only [jm_ins] at h
    repeat' split at h
    all_goals cases h
  case lreturn =>
    simp only [jm_ins] at h
    repeat' split at h
    all_goals cases h
  case areturn =>
    simp only [jm_ins] at h
    repeat' split at h
    all_goals cases h
  case return_ =>
    simp only [jm_ins] at h
    repeat' split at h
    all_goals cases h
  all_goals (simp only [jm_ins] at h; cases h)
def jm_S (D : va_G) (cA : Nat → ClassId) (ad adV : Nat → Nat) (B : Nat) (H0 : Heap) (l : Launch) (n : Nat) : Prop :=
  ∀ (i : Nat) (f : jmF) (r : Option jmV) (w1 : jmW), jm_ex n i f = some (r, w1) → ∀ (p : Program) (e : Env) (R : Room) (s : State) (m : MethodId) (args : Array Value) (below : List Frame) (meth : Method) (c : Code) (Q : State → Prop) (n0 k0 : Nat), jm_X D cA ad adV B H0 p R s m args meth c i → mN w1 ≤ n0 + R.cells → mK w1 ≤ k0 + R.slots → (∀ f1 : jmF, f1.2.2.2 = w1 → jm_step i f1 = some (.inr (.inr r)) → jm_C D cA ad B H0 p l e R s m args below meth c Q i n0 k0 f1) → jm_C D cA ad B H0 p l e R s m args below meth c Q i n0 k0 f
def jm_Pc (D : va_G) (cA : Nat → ClassId) (ad adV : Nat → Nat) (B : Nat) (H0 : Heap) (as : List jmV) (w : jmW) : Array Value → State → Prop := va_Pc (as.map (jem ad)) (fun U => jm_rep D cA ad B H0 w U U.heap ∧ jm_KK D cA ad adV B H0 U)
def jm_Qc (D : va_G) (cA : Nat → ClassId) (ad : Nat → Nat) (B : Nat) (H0 : Heap) (r : Option jmV) (w1 : jmW) : Array Value → State → Outcome → State → Prop := fun _ _ o t => o = .returned (r.map (jem ad)) ∧ jm_rep D cA ad B H0 w1 t t.heap
def jm_rm (j : Nat) (w w1 : jmW) : Room := { frames := jm_f j, cells := mN w1 - mN w, slots := mK w1 - mK w, locals := jm_l j }
theorem jm_met {n j : Nat} {as : List jmV} {w w1 : jmW} {r : Option jmV} (hS : jm_S D cA ad adV B H0 l n) (had : ∀ j, ad (64 + j) = B + j) (h : jm_ex n j (0, jas 0 as, [], w) = some (r, w1)) (hj : j < 313) (hk : jm_k j < 3) (hwd : jwd as ≤ jm_m j) (hr : ¬ r = some (jvr 0)) : Met l (jm_y j) (.code (jm_y j) (jm_b j) (jm_m j) (jm_r j) :: jm_all) (jm_rm j w w1) (jm_Pc D cA ad adV B H0 as w) (jm_Qc D cA ad B H0 r w1) (mN w1 - mN w) (mK w1 - mK w) (fun q => B ≤ q) := by
  obtain ⟨t1, t2, t3, t4, t5, t6, t7, t8, t9, t10, t11, t12⟩ := jm_cal hj hk
  obtain ⟨gN, gK⟩ := jm_ex_grow _ _ _ _ _ h
  simp only at gN gK
  refine va_MetF (cc := jm_b j) (maxL := jm_m j) (ret := jm_r j) t9 rfl ?_
  intro p e s m args below meth c s₁ X0 hml hv
  obtain ⟨rfl, hrep, hKK⟩ := hv
  have hown : s.vm.findClass (jm_own (jm_o j)) = some m.cls := by
    rw [← t7]
    exact findClass_of_methodNamed X0.named
  have hX : jm_X D cA ad adV B H0 p (headSpec (.code (jm_y j) (jm_b j) (jm_m j) (jm_r j) :: jm_all) (jm_rm j w w1)).room s m (as.map (jem ad)).toArray meth c j := ⟨X0.exec, X0.bytes, hml, hown, jm_tsof (atoms_spec X0.pre), X0.notSynchronized, fun z => (name_of_methodNamed X0.named X0.method).1.trans (t6 z), X0.returns, Nat.le_refl _, Nat.le_refl _, hKK, had⟩
  have hl := lv_entry (as.map (jem ad)) (n := jm_m j) (by rw [jas_len]; exact hwd)
  rw [lg_entry_eq]
  generalize (lg_sl (as.map (jem ad)) ++ List.replicate (jm_m j - (lg_sl (as.map (jem ad))).length) Slot.unset).toArray = ls at hl ⊢
  rw [← jas_args] at hl
  refine hS j _ r w1 h p e _ s m _ below meth c _ (mN w) (mK w) hX (by show _ ≤ _ + (mN w1 - mN w); omega) (by show _ ≤ _ + (mK w1 - mK w); omega) ?_ ls s.heap [] 0 0 hl hrep (fun q hq => by cases hq) rfl rfl
  intro f1 hf1 hst
  obtain ⟨ins, len, hd, hle, hin⟩ := jm_step_inv hst
  obtain ⟨pc1, lv1, st1, w2⟩ := f1
  simp only at hd hin hf1
  subst hf1
  intro ls1 H1 locs1 cells1 slots1 hl1 hrep1 hloc1 hn1 hk1
  have hc1 : cells1 = mN w2 - mN w := by simp only at hn1; omega
  have hs1 : slots1 = mK w2 - mK w := by simp only at hk1; omega
  subst hc1
  subst hs1
  have hx := X0.exec
  have hb := X0.bytes
  have hret := X0.returns
  have hlk := X0.notSynchronized
  have hq : ∀ t : State, t.heap = H1 → s.WarmedH t.vm → jm_rep D cA ad B H0 w2 t t.heap := fun t ht hW => by
    rw [ht]
    exact hrep1.warm hW.alike
  rcases jm_ins_isO hin with ⟨rfl, x, rfl, hro, rfl⟩ | ⟨rfl, x, rfl, hro, rfl⟩ | ⟨rfl, x, rfl, hro, rfl⟩ | ⟨rfl, rfl, hro, rfl⟩ | ⟨-, hz⟩
  · have hd := jm_ln hd (of_decide_eq_true hle : len = 1)
    unfold jrok at hro
    split at hro
    · rename_i hri
      exact W.iret (v := Int32.ofInt x) hx hb (hret.trans hri) (fun t ht hW => ⟨rfl, hq t ht hW⟩) hloc1 hd hlk
    · rename_i hri
      exact W.zret (v := Int32.ofInt x) (ty := .boolean) hx hb (hret.trans hri) (by rcases of_decide_eq_true hro with rfl | rfl <;> rfl) (fun t ht hW => ⟨rfl, hq t ht hW⟩) hloc1 hd hlk
    · cases hro
  · have hd := jm_ln hd (of_decide_eq_true hle : len = 1)
    exact W.lret (v := Int64.ofInt x) hx hb (hret.trans hro) (fun t ht hW => ⟨rfl, hq t ht hW⟩) hloc1 hd hlk
  · have hd := jm_ln hd (of_decide_eq_true hle : len = 1)
    exact W.aret (v := va_rf (x.map ad)) hx hb (hret.trans hro) (Or.inl ⟨_, rfl⟩) (by cases x with | none => exact Or.inl rfl | some x => exact Or.inr ⟨_, rfl⟩) (fun t ht hW => ⟨rfl, hq t ht hW⟩) hloc1 hd hlk
  · have hd := jm_ln hd (of_decide_eq_true hle : len = 1)
    exact W.vret hx hb (hret.trans hro) (fun t ht hW => ⟨rfl, hq t ht hW⟩) hloc1 hd hlk
  · exact absurd hz hr
theorem jm_Pc_blind {as : List jmV} {w : jmW} : FrameBlind (jm_Pc D cA ad adV B H0 as w) := fun a U g mk q => ⟨q.1, q.2.1.warm (U := U.calling g mk a) (Vm.Alike.refl U.vm), q.2.2.warm (U := U.calling g mk a) (State.WarmedH.refl U)⟩
theorem jm_use {f : jmF} {g : jmF} {w : jmW} {r : Option jmV} {w1 : jmW} {H : Heap} {locs : List Loc} {cells slots : Nat} {ls : Array Slot} {pc : Nat} {st0 : List Value} {rest : List jmV} {lv : jmL} {a : Array Value} (hl : lv_has ls (jm_m i) (jeml ad lv)) (hloc : ∀ q ∈ locs, B ≤ q.base) (hn : mN w = n0 + cells) (hk : mK w = k0 + slots) (gN : mN w ≤ mN w1) (gK : mK w ≤ mK w1)
    (hr : va_Run p l e R s m args below meth c H locs cells slots (mN w1 - mN w) (mK w1 - mK w) (F0 m pc ls st0) (rest.map (jem ad)) (jm_Qc D cA ad B H0 r w1 a) (fun q => B ≤ q)) (k : jm_C D cA ad B H0 p l e R s m args below meth c Q i n0 k0 (pc + 3, lv, r.toList ++ rest, w1)) : W p l e R s m args below meth c H locs cells slots Q (F0 m pc ls st0) := by
  intro T hT X
  obtain ⟨v, st₀, t, T1, L, h0, X1, hL, e1, e2, ⟨hv, hrep⟩, st⟩ := hr T hT X
  have hv2 : v = r.map (jem ad) := by cases hv; rfl
  subst hv2
  have hW := X1.warmed
  have hrep2 : jm_rep D cA ad B H0 w1 s T1.heap := by
    rw [e1]
    rw [e2] at hW
    exact hrep.warm hW.alike.symm
  obtain ⟨t2, a1, b1⟩ := k ls T1.heap (locs ++ L) (cells + (mN w1 - mN w)) (slots + (mK w1 - mK w)) hl hrep2 (fun q hq => (List.mem_append.mp hq).elim (hloc q) (hL q)) (by simp only; omega) (by simp only; omega) T1 rfl X1
  refine ⟨t2, st t2 ?_, b1⟩
  have e9 : ((r.toList ++ rest).map (jem ad)) = (r.map (jem ad)).toList ++ rest.map (jem ad) := by
    cases r <;> rfl
  rw [← e9]
  exact a1
theorem jm_callstep {n j : Nat} {f g : jmF} {as : List jmV} {r : Option jmV} {w1 : jmW} (hS : jm_S D cA ad adV B H0 l n) (hs : jm_step i f = some (.inr (.inl (j, as, g)))) (hc : jm_ex n j (0, jas 0 as, [], g.2.2.2) = some (r, w1)) (hr : ¬ r = some (jvr 0)) (X : jm_X D cA ad adV B H0 p R s m args meth c i) (hgN : mN w1 ≤ n0 + R.cells) (hgK : mK w1 ≤ k0 + R.slots) (k : jm_C D cA ad B H0 p l e R s m args below meth c Q i n0 k0 (g.1, g.2.1, r.toList ++ g.2.2.1, w1)) : jm_C D cA ad B H0 p l e R s m args below meth c Q i n0 k0 f := by
  obtain ⟨ins, len, hd, hle, hin⟩ := jm_step_inv hs
  obtain ⟨hx, hb, hml, hown, hts, hlk, hini, hrt, hfr, hlo, hKK, had⟩ := id X
  have hO := jm_ins_isO hin
  have hgw : g.2.2.2 = f.2.2.2 := jm_step_grow hs
  obtain ⟨gN, gK⟩ := jm_ex_grow _ _ _ _ _ hc
  simp only at gN gK
  obtain ⟨pc, lv, st, w⟩ := f
  obtain ⟨pcg, lvg, stg, wg⟩ := g
  simp only at hd hin hO hgw hc k gN gK
  subst hgw
  intro ls H locs cells slots hl hrep hlocs hn hk
  simp only at hl hrep hn hk
  have pre : ∀ (as : List jmV) (U : State), U.heap = H → s.WarmedH U.vm → jm_Pc D cA ad adV B H0 as wg (as.map (jem ad)).toArray U := fun as U hU hW => ⟨rfl, by rw [hU]; exact hrep.warm hW.alike, hKK.warm hW⟩
  rcases hO with ⟨idx, j0, n1, z, rfl, hq, hcv⟩ | ⟨idx, j0, n1, z, rfl, hq, hcv⟩ | ⟨idx, j0, n1, z, rfl, hq, hcv⟩
  · obtain ⟨f1, f2, f3, f4⟩ := jm_mf_in hq (Or.inl rfl)
    obtain ⟨b, t, hdr, hSb, hcl⟩ := jm_callv_inv hcv
    obtain ⟨q1, q2, q3, q4, q5, q6, q7, q8⟩ := jm_call_inv hcl
    subst q1 q2 q3 q4 q5
    have hk0 : jm_k j < 3 := by omega
    obtain ⟨t1, t2, t3, t4, t5, t6, t7, t8, t9, t10, t11, t12⟩ := jm_cal f1 hk0
    obtain ⟨r1, r2, r3⟩ := of_decide_eq_true q7
    have hM := jm_met (w1 := w1) hS had hc f1 hk0 q8 hr
    have hlink := hts _ (f4.resolve_right (fun z => by have := z.1; omega))
    obtain ⟨c1, c2, q9, hq9, cell, c3, c4, c5, -⟩ := hrep.2.2.1 b _ _ hSb
    obtain ⟨-, -, -, -, -, c6, -⟩ := jm_cls hq9
    have hrec : ∃ cellB : Cell, H[ad b]? = some cellB ∧ cellB.vm.isStatics = false ∧ s.vm.findClass (jm_y j).cls = some cellB.cls := by
      refine ⟨cell, c3, by rw [c5]; rfl, ?_⟩
      rw [t7, c6, c4]
      exact (hKK.1.1 _ _ hq9).2.1
    have hst : st.map (jem ad) = (((st.take n1).reverse.map (jem ad)).reverse ++ .ref (ad b) :: stg.map (jem ad)) := by
      have e1 : st = st.take n1 ++ (jvr b :: stg) := by rw [← hdr, List.take_append_drop]
      conv => lhs; rw [e1]
      rw [List.map_append, List.map_reverse, List.reverse_reverse]
      rfl
    refine jm_use hl hlocs hn hk gN gK ?_ k
    exact va_runV (As := (st.take n1).reverse.map (jem ad)) (rest := stg.map (jem ad)) ⟨hx, hb, hml, hown, hts⟩ hM ⟨⟨rfl, rfl, Nat.le_trans r1 hfr, Nat.le_trans r2 hlo, jm_goodc t1 hts, List.mem_cons_self, hts _ t1, hts _ t2, t10, jm_nof t8, hlink⟩, hts _ (t4 (by omega)), hts _ (t5 (by omega))⟩ ⟨jm_Pc_blind, hrec, fun U hU hW => pre (jvr b :: (st.take n1).reverse) U hU hW⟩ rfl (by rw [List.length_map]; omega) (by exact hl.1) hst (lv_room (jm_rest ad r3)) (jm_ln hd (of_decide_eq_true hle)) ⟨by omega, by omega⟩
  · obtain ⟨f1, f2, f3, f4⟩ := jm_mf_in hq (Or.inr (Or.inr rfl))
    obtain ⟨b, t, hdr, hSb, hcl⟩ := jm_callv_inv hcv
    obtain ⟨q1, q2, q3, q4, q5, q6, q7, q8⟩ := jm_call_inv hcl
    subst q1 q2 q3 q4 q5
    have hk0 : jm_k j < 3 := by omega
    obtain ⟨t1, t2, t3, t4, t5, t6, t7, t8, t9, t10, t11, t12⟩ := jm_cal f1 hk0
    obtain ⟨r1, r2, r3⟩ := of_decide_eq_true q7
    have hM := jm_met (w1 := w1) hS had hc f1 hk0 q8 hr
    have hrn : jm_r j = none := t12 (by omega)
    rw [hrn] at hM t1
    have hst : st.map (jem ad) = (((st.take n1).reverse.map (jem ad)).reverse ++ .ref (ad b) :: stg.map (jem ad)) := by
      have e1 : st = st.take n1 ++ (jvr b :: stg) := by rw [← hdr, List.take_append_drop]
      conv => lhs; rw [e1]
      rw [List.map_append, List.map_reverse, List.reverse_reverse]
      rfl
    refine jm_use hl hlocs hn hk gN gK ?_ k
    rcases f4 with f4 | ⟨-, host, f4⟩
    · exact va_runI (b := ad b) (As := (st.take n1).reverse.map (jem ad)) (rest := stg.map (jem ad)) ⟨hx, hb, hml, hown, hts⟩ hM ⟨⟨rfl, rfl, Nat.le_trans r1 hfr, Nat.le_trans r2 hlo, jm_goodc t1 hts, List.mem_cons_self, hts _ t1, hts _ t2, t10, jm_nof t8, hts _ f4⟩, t6 (by omega), hts _ (t4 (by omega))⟩ ⟨jm_Pc_blind, fun U hU hW => pre (jvr b :: (st.take n1).reverse) U hU hW⟩ rfl (by rw [List.length_map]; omega) (by exact hl.1) hst (lv_room (jm_rest ad r3)) (jm_ln hd (of_decide_eq_true hle)) ⟨by omega, by omega⟩
    · exact va_runIN (b := ad b) (As := (st.take n1).reverse.map (jem ad)) (rest := stg.map (jem ad)) ⟨hx, hb, hml, hown, hts⟩ hM ⟨⟨⟨rfl, rfl, Nat.le_trans r1 hfr, Nat.le_trans r2 hlo, jm_goodc t1 hts, List.mem_cons_self⟩, hts _ t1, hts _ t2, t10, jm_nof t8, hts _ f4⟩, t6 (by omega), hts _ (t4 (by omega))⟩ ⟨jm_Pc_blind, fun U hU hW => pre (jvr b :: (st.take n1).reverse) U hU hW⟩ rfl (by rw [List.length_map]; omega) (by exact hl.1) hst (lv_room (jm_rest ad r3)) (jm_ln hd (of_decide_eq_true hle)) ⟨by omega, by omega⟩
  · obtain ⟨f1, f2, f3, f4⟩ := jm_mf_in hq (Or.inr (Or.inl rfl))
    obtain ⟨q1, q2, q3, q4, q5, q6, q7, q8⟩ := jm_call_inv hcv
    subst q1 q2 q3 q4
    have hk0 : jm_k j < 3 := by omega
    obtain ⟨t1, t2, t3, t4, t5, t6, t7, t8, t9, t10, t11, t12⟩ := jm_cal f1 hk0
    obtain ⟨r1, r2, r3⟩ := of_decide_eq_true q7
    have hM := jm_met (w1 := w1) hS had hc f1 hk0 q8 hr
    have hlink := hts _ (f4.resolve_right (fun z => by have := z.1; omega))
    have hst : st.map (jem ad) = (((st.take n1).reverse.map (jem ad)).reverse ++ stg.map (jem ad)) := by
      have e1 : st = st.take n1 ++ stg := by rw [q5, List.take_append_drop]
      conv => lhs; rw [e1]
      rw [List.map_append, List.map_reverse, List.reverse_reverse]
    refine jm_use hl hlocs hn hk gN gK ?_ k
    exact va_runS (As := (st.take n1).reverse.map (jem ad)) (rest := stg.map (jem ad)) ⟨hx, hb, hml, hown, hts⟩ hM ⟨⟨rfl, rfl, Nat.le_trans r1 hfr, Nat.le_trans r2 hlo, jm_goodc t1 hts, List.mem_cons_self, hts _ t1, hts _ t2, t10, jm_nof t8, hlink⟩, hts _ (t3 (by omega))⟩ ⟨jm_Pc_blind, fun U hU hW => pre (st.take n1).reverse U hU hW⟩ rfl (by rw [List.length_map]; omega) (by exact hl.1) hst (lv_room (jm_rest ad r3)) (jm_ln hd (of_decide_eq_true hle)) ⟨by omega, by omega⟩
theorem jm_sound (had : ∀ j, ad (64 + j) = B + j) : ∀ n, jm_S D cA ad adV B H0 l n := by
  intro n
  induction n with
  | zero =>
    intro i f r w1 h
    cases h
  | succ n ih =>
    intro i f r w1 h p e R s m args below meth c Q n0 k0 X hN hK hend
    rw [jm_ex] at h
    split at h
    · rename_i g hq
      have hC := ih i g r w1 h p e R s m args below meth c Q n0 k0 X hN hK hend
      obtain ⟨gN, gK⟩ := jm_ex_grow _ _ _ _ _ h
      unfold jm_nx at hq
      split at hq
      · rename_i g2 hs
        cases hq
        exact jm_one hs X (by omega) (by omega) hC
      · rename_i j as g2 hs
        split at hq
        · rename_i r3 w3 hc
          split at hq
          · cases hq
          · rename_i hr3
            cases hq
            exact jm_callstep ih hs hc hr3 X (by simp only at gN; omega) (by simp only at gK; omega) hC
        · cases hq
      · cases hq
      · cases hq
    · rename_i r2 hq
      cases h
      unfold jm_nx at hq
      split at hq
      · cases hq
      · split at hq
        · split at hq <;> cases hq
        · cases hq
      · rename_i r4 hs
        cases hq
        exact hend f rfl hs
      · cases hq
    · cases h
end MAIN
