section MAIN
variable {D : va_G} {cA : Nat → ClassId} {ad adV : Nat → Nat} {B : Nat} {H0 : Heap} {p : Program} {l : Launch} {e : Env} {R : Room} {s : State} {m : MethodId} {args : Array Value} {below : List Frame} {meth : Method} {c : Code} {Q : State → Prop} {i n0 k0 : Nat}
set_option maxHeartbeats 2000000 in
theorem jm_one {f g : jmF} (hs : jm_step i f = some (.inl g)) (X : jm_X D cA ad adV B H0 p R s m args meth c i) (hgN : mN g.2.2.2 ≤ n0 + R.cells) (hgK : mK g.2.2.2 ≤ k0 + R.slots) (k : jm_C D cA ad B H0 p l e R s m args below meth c Q i n0 k0 g) : jm_C D cA ad B H0 p l e R s m args below meth c Q i n0 k0 f := by
  obtain ⟨ins, len, hd, hl, h⟩ := jm_step_inv hs
  obtain ⟨pc, lv, st, w⟩ := f
  simp only at hd h
  cases ins
  case iconst n => exact o_iconst X (jm_ln hd (of_decide_eq_true hl)) h k
  case bipush n => exact o_bipush X (jm_ln hd (of_decide_eq_true hl)) h k
  case sipush n => exact o_sipush X (jm_ln hd (of_decide_eq_true hl)) h k
  case lconst n => exact o_lconst X (jm_ln hd (of_decide_eq_true hl)) h k
  case aconst_null => exact o_aconst_null X (jm_ln hd (of_decide_eq_true hl)) h k
  case iload_n z => exact o_iload_n X (jm_ln hd (of_decide_eq_true hl)) h k
  case iload z => exact o_iload X (jm_ln hd (of_decide_eq_true hl)) h k
  case lload_n z => exact o_lload_n X (jm_ln hd (of_decide_eq_true hl)) h k
  case lload z => exact o_lload X (jm_ln hd (of_decide_eq_true hl)) h k
  case aload_n z => exact o_aload_n X (jm_ln hd (of_decide_eq_true hl)) h k
  case aload z => exact o_aload X (jm_ln hd (of_decide_eq_true hl)) h k
  case istore_n z => exact o_istore_n X (jm_ln hd (of_decide_eq_true hl)) h k
  case istore z => exact o_istore X (jm_ln hd (of_decide_eq_true hl)) h k
  case lstore_n z => exact o_lstore_n X (jm_ln hd (of_decide_eq_true hl)) h k
  case lstore z => exact o_lstore X (jm_ln hd (of_decide_eq_true hl)) h k
  case astore_n z => exact o_astore_n X (jm_ln hd (of_decide_eq_true hl)) h k
  case astore z => exact o_astore X (jm_ln hd (of_decide_eq_true hl)) h k
  case iinc z n => exact o_iinc X (jm_ln hd (of_decide_eq_true hl)) h k
  case dup => exact o_dup X (jm_ln hd (of_decide_eq_true hl)) h k
  case dup2 => exact o_dup2 X (jm_ln hd (of_decide_eq_true hl)) h k
  case pop => exact o_pop X (jm_ln hd (of_decide_eq_true hl)) h k
  case iadd => exact o_iadd X (jm_ln hd (of_decide_eq_true hl)) h k
  case isub => exact o_isub X (jm_ln hd (of_decide_eq_true hl)) h k
  case imul => exact o_imul X (jm_ln hd (of_decide_eq_true hl)) h k
  case idiv => exact o_idiv X (jm_ln hd (of_decide_eq_true hl)) h k
  case irem => exact o_irem X (jm_ln hd (of_decide_eq_true hl)) h k
  case iand => exact o_iand X (jm_ln hd (of_decide_eq_true hl)) h k
  case ior => exact o_ior X (jm_ln hd (of_decide_eq_true hl)) h k
  case ixor => exact o_ixor X (jm_ln hd (of_decide_eq_true hl)) h k
  case ishl => exact o_ishl X (jm_ln hd (of_decide_eq_true hl)) h k
  case ishr => exact o_ishr X (jm_ln hd (of_decide_eq_true hl)) h k
  case iushr => exact o_iushr X (jm_ln hd (of_decide_eq_true hl)) h k
  case ineg => exact o_ineg X (jm_ln hd (of_decide_eq_true hl)) h k
  case i2c => exact o_i2c X (jm_ln hd (of_decide_eq_true hl)) h k
  case i2b => exact o_i2b X (jm_ln hd (of_decide_eq_true hl)) h k
  case i2l => exact o_i2l X (jm_ln hd (of_decide_eq_true hl)) h k
  case l2i => exact o_l2i X (jm_ln hd (of_decide_eq_true hl)) h k
  case ladd => exact o_ladd X (jm_ln hd (of_decide_eq_true hl)) h k
  case lmul => exact o_lmul X (jm_ln hd (of_decide_eq_true hl)) h k
  case lrem => exact o_lrem X (jm_ln hd (of_decide_eq_true hl)) h k
  case lcmp => exact o_lcmp X (jm_ln hd (of_decide_eq_true hl)) h k
  case goto off => exact o_goto X (jm_ln hd (of_decide_eq_true hl)) h k
  case ifnull off => exact o_ifnull X (jm_ln hd (of_decide_eq_true hl)) h k
  case ifnonnull off => exact o_ifnonnull X (jm_ln hd (of_decide_eq_true hl)) h k
  case ldc idx => exact o_ldc X (jm_ln hd (of_decide_eq_true hl)) h k
  case ldc_w idx => exact o_ldc_w X (jm_ln hd (of_decide_eq_true hl)) h k
  case ldc2_w idx => exact o_ldc2_w X (jm_ln hd (of_decide_eq_true hl)) h k
  case getstatic idx => exact o_getstatic X (jm_ln hd (of_decide_eq_true hl)) h k
  case getfield idx => exact o_getfield X (jm_ln hd (of_decide_eq_true hl)) h k
  case putfield idx => exact o_putfield X (jm_ln hd (of_decide_eq_true hl)) h k
  case arraylength => exact o_arraylength X (jm_ln hd (of_decide_eq_true hl)) h k
  case iaload => exact o_iaload X (jm_ln hd (of_decide_eq_true hl)) h k
  case baload => exact o_baload X (jm_ln hd (of_decide_eq_true hl)) h k
  case laload => exact o_laload X (jm_ln hd (of_decide_eq_true hl)) h k
  case aaload => exact o_aaload X (jm_ln hd (of_decide_eq_true hl)) h k
  case iastore => exact o_iastore X (jm_ln hd (of_decide_eq_true hl)) h k
  case bastore => exact o_bastore X (jm_ln hd (of_decide_eq_true hl)) h k
  case lastore => exact o_lastore X (jm_ln hd (of_decide_eq_true hl)) h k
  case aastore => exact o_aastore X (jm_ln hd (of_decide_eq_true hl)) h k
  case new idx => exact o_new X (jm_ln hd (of_decide_eq_true hl)) h hgN hgK k
  case newarray ty => exact o_newarray X (jm_ln hd (of_decide_eq_true hl)) h hgN hgK k
  case anewarray idx => exact o_anewarray X (jm_ln hd (of_decide_eq_true hl)) h hgN hgK k
  case if_icmp cd off =>
    cases cd
    case eq => exact o_icmp_eq X (jm_ln hd (of_decide_eq_true hl)) h k
    case ne => exact o_icmp_ne X (jm_ln hd (of_decide_eq_true hl)) h k
    case lt => exact o_icmp_lt X (jm_ln hd (of_decide_eq_true hl)) h k
    case ge => exact o_icmp_ge X (jm_ln hd (of_decide_eq_true hl)) h k
    case gt => exact o_icmp_gt X (jm_ln hd (of_decide_eq_true hl)) h k
    case le => exact o_icmp_le X (jm_ln hd (of_decide_eq_true hl)) h k
  case ifCond cd off =>
    cases cd
    case eq => exact o_if_eq X (jm_ln hd (of_decide_eq_true hl)) h k
    case ne => exact o_if_ne X (jm_ln hd (of_decide_eq_true hl)) h k
    case lt => exact o_if_lt X (jm_ln hd (of_decide_eq_true hl)) h k
    case ge => exact o_if_ge X (jm_ln hd (of_decide_eq_true hl)) h k
    case gt => exact o_if_gt X (jm_ln hd (of_decide_eq_true hl)) h k
    case le => exact o_if_le X (jm_ln hd (of_decide_eq_true hl)) h k
  case tableswitch d lo hi offs => exact o_table X hd h k
  case invokevirtual idx =>
    generalize hq : jm_lk (jm_o i) idx = r
    obtain ⟨kd, a, b, z⟩ := r
    by_cases h11 : kd = 11
    · subst h11
      exact o_strlen hq X (jm_ln hd (of_decide_eq_true hl)) h hgN hgK k
    by_cases h12 : kd = 12
    · subst h12
      exact o_strchar hq X (jm_ln hd (of_decide_eq_true hl)) h hgN hgK k
    simp only [jm_ins, jgo, hq] at h
    split at h
    · exact (jm_callv_ni h).elim
    · rename_i h9
      cases h9
      exact absurd rfl h11
    · rename_i h9
      cases h9
      exact absurd rfl h12
    · cases h
  case invokespecial idx => exact o_objinit X (jm_ln hd (of_decide_eq_true hl)) h k
  case invokestatic idx =>
    generalize hq : jm_lk (jm_o i) idx = r
    obtain ⟨kd, a, b, z⟩ := r
    by_cases h13 : kd = 13
    · subst h13
      exact o_copy hq X (jm_ln hd (of_decide_eq_true hl)) h k
    simp only [jm_ins, jgo, hq] at h
    split at h
    · exact (jm_call_ni h).elim
    · rename_i h9
      cases h9
      exact absurd rfl h13
    · cases h
  case ireturn =>
    simp only [jm_ins] at h
    repeat' split at h
    all_goals cases h
  case lreturn =>
    simp only [jm_ins] at h
    repeat' split at h
    all_goals cases h
  case areturn =>
    simp only [jm_ins] at h
    repeat' split at h
    all_goals cases h
  case return_ =>
    simp only [jm_ins] at h
    repeat' split at h
    all_goals cases h
  all_goals exact absurd (show (none : Option jmA) = some (.inl g) from h) (by simp)
end MAIN
