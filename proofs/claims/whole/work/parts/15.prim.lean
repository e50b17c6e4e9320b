/-! Three calls that the small machine does at once. -/
section PRIM
variable {D : va_G} {cA : Nat → ClassId} {ad adV : Nat → Nat} {B : Nat} {H0 : Heap} {p : Program} {l : Launch} {e : Env} {R : Room} {s : State} {m : MethodId} {args : Array Value} {below : List Frame} {meth : Method} {c : Code} {Q : State → Prop} {i n0 k0 : Nat}
variable {pc : Nat} {lv : jmL} {st : List jmV} {w : jmW} {g : jmF}
theorem jm_mlink (hts : ∀ w ∈ jm_all, w.before args s = true) {o idx kd a b : Nat} {z : Int} (h : jm_lk o idx = (kd, a, b, z)) (hkd : kd = 4 ∨ kd = 11 ∨ kd = 12 ∨ kd = 13) : (Cond.methodLink (jm_own o) idx (if kd = 4 then objectInit else if kd = 11 then ⟨"java/lang/String", "length", "()I"⟩ else if kd = 12 then ⟨"java/lang/String", "charAt", "(I)C"⟩ else arraycopyName)).before args s = true := by
  obtain ⟨q, h1, h2, -, h4⟩ := jm_lk_in h (by omega)
  have h5 := hts _ (h4.resolve_left (by omega))
  have e1 : q.1.1 = o := by rw [h1]
  have e2 : q.1.2 = idx := by rw [h1]
  unfold jm_lw at h5
  rcases hkd with rfl | rfl | rfl | rfl
  · simp only [h2, e1, e2] at h5
    exact h5
  · simp only [h2, e1, e2] at h5
    exact h5
  · simp only [h2, e1, e2] at h5
    exact h5
  · simp only [h2, e1, e2] at h5
    exact h5
theorem jm_rest (ad : Nat → Nat) {t : List jmV} (h : jwd t ≤ 8) : ((t.map (jem ad)).map fun v => v.category).sum ≤ 8 := by
  rw [jem_wd]
  exact h
theorem o_objinit {idx : Nat} (X : jm_X D cA ad adV B H0 p R s m args meth c i) (hd : decode (jm_b i) pc = .ok (.invokespecial idx, 3)) (h : jm_ins i (.invokespecial idx) pc lv st w = some (.inl g)) (k : jm_C D cA ad B H0 p l e R s m args below meth c Q i n0 k0 g) : jm_C D cA ad B H0 p l e R s m args below meth c Q i n0 k0 (pc, lv, st, w) := by
  obtain ⟨hx, hb, hml, hown, hts, hlk, hini, hrt, hfr, hlo, hKK, had⟩ := X
  intro ls H locs cells slots hl hrep hlocs hn hk
  simp only [jm_ins, jgo] at h
  split at h
  · rename_i j n z hq
    unfold jm_callv jm_call at h
    repeat' split at h
    all_goals cases h
  · rename_i a1 b1 z a t hq
    split at h
    · rename_i hS
      obtain ⟨h1, h2, h3, h4⟩ := hS
      have h := Sum.inl.inj (Option.some.inj h)
      subst h
      have hr := jm_rest ad h2
      exact W.objInit hx hb hown (jm_mlink hts hq (Or.inl rfl)) (hts _ jw_obI) (hts _ jw_obC) rfl (by rw [hml]; exact hl.1) rfl hd (by omega) (by show 2 * 0 + _ + 12 ≤ _; omega) (k ls H locs cells slots hl hrep hlocs hn hk)
    · cases h
  · cases h
theorem jm_wcopy {cc : ByteArray} {H : Heap} {locs : List Loc} {cells slots : Nat} {ls : Array Slot} {rest : List Value} {a a0 : Nat} (hexec : p.tables.exec = Jvm.exec) (hb : c.code = cc) (hml : c.maxLocals = ls.size) {own : String} {index : Nat} (hown : s.vm.findClass own = some m.cls) (hlink : (Cond.methodLink own index arraycopyName).before args s = true) (hnat : (Cond.native arraycopyName).before args s = true) (hstat : (Cond.static arraycopyName).before args s = true) (hini : (Cond.initialized "java/lang/System").before args s = true)
    {c0 : ClassId} {n0 n1 : Nat} {f g : Nat → Int32} (hA : ArrOfT s c0 .int) (hc0 : H[a0]? = some (vp_cell c0 (n0, .inl f))) (hc1 : H[a]? = some (vp_cell c0 (n1, .inl g)))
    {sp dp n : Int32} (h1 : ¬ sp < 0) (h2 : ¬ dp < 0) (h3 : ¬ n < 0) (h4 : sp.toNatClampNeg + n.toNatClampNeg ≤ n0) (h5 : dp.toNatClampNeg + n.toNatClampNeg ≤ n1)
    (hframes : 1 ≤ R.frames) (hlocals : (rest.map fun v => v.category).sum + (nativeFrameWords "java/lang/System" "arraycopy" 5 + 11) ≤ R.locals) (hdg : decode cc pc = .ok (.invokestatic index, 3))
    (kk : ∀ (H1 : Heap) (L : List Loc), H1[a]? = some (vp_cell c0 (n1, .inl (va_cpy f g sp.toNatClampNeg dp.toNatClampNeg n.toNatClampNeg))) → H1.size = H.size → (∀ q, q ≠ a → H1[q]? = H[q]?) → (∀ z ∈ L, z.base = a) → W p l e R s m args below meth c H1 (locs ++ L) cells slots Q (F0 m (pc + 3) ls rest)) : W p l e R s m args below meth c H locs cells slots Q (F0 m pc ls (.int n :: .int dp :: .ref a :: .int sp :: .ref a0 :: rest)) := by
  have nn : ∀ z : Int32, ¬ z < 0 → z.toInt = (z.toNatClampNeg : Int) := by
    intro z hz
    have hz0 : (0 : Int) ≤ z.toInt := by
      have := Int32.not_lt.mp hz
      simpa using Int32.le_iff_toInt_le.mp this
    show z.toInt = ((z.toInt.toNat : Nat) : Int)
    omega
  intro T hT X
  obtain ⟨-, k0, hk0, cm0, hkk0⟩ := hA n0 (fun j => .int (f j))
  obtain ⟨-, k1, hk1, cm1, hkk1⟩ := hA n1 (fun j => .int (g j))
  obtain ⟨vm', X', step⟩ := X.arraycopy hexec hown hlink hnat hstat hini (src := a0) (dst := a) (cs := vp_cell c0 (n0, .inl f)) (cd := vp_cell c0 (n1, .inl g)) (srcPos := sp) (destPos := dp) (n := n) (by rw [hT]; exact hc0) (by rw [hT]; exact hc1)
    (fun _ h => by cases h) (fun _ h => by cases h) (fun h => by cases h) (fun h => by cases h) hk0 hk1 hkk0 hkk1 (by simp [refKind]) h1 h2 h3
    (by rw [nn sp h1, nn n h3]; show ¬ _ > ((arrV c0 n0 (fun j => .int (f j))).slots.size : Int); rw [arrV_size]; omega)
    (by rw [nn dp h2, nn n h3]; show ¬ _ > ((arrV c0 n1 (fun j => .int (g j))).slots.size : Int); rw [arrV_size]; omega)
    (fun vm₁ _ i hi => by
      have e : (vp_cell c0 (n0, .inl f)).slots.getD (sp.toNatClampNeg + i) .null = .int (f (sp.toNatClampNeg + i)) := by
        show (arrV c0 n0 (fun j => .int (f j))).slots.getD _ _ = _
        rw [Array.getD_eq_getD_getElem?, arrV_read _ _ (by omega)]
        rfl
      refine ⟨?_, ?_⟩
      · rw [e]
        rfl
      · rw [e]
        exact trivial)
    (g := F0 m pc ls (.int n :: .int dp :: .ref a :: .int sp :: .ref a0 :: rest)) rfl (by rw [hml]) (rest := rest) rfl (by rw [hb]; exact hdg) hframes (by show 2 * 0 + _ + _ ≤ _; omega)
  have e1 : copied (vp_cell c0 (n0, .inl f)) (vp_cell c0 (n1, .inl g)) sp dp n = vp_cell c0 (n1, .inl (va_cpy f g sp.toNatClampNeg dp.toNatClampNeg n.toNatClampNeg)) := va_copied (fun z => .int z) c0 c0 f g h4
  rw [e1] at X' step
  have hl : a < H.size := (Array.getElem?_eq_some_iff.mp hc1).1
  have hheap : ((T.setVm vm').setCell a (vp_cell c0 (n1, .inl (va_cpy f g sp.toNatClampNeg dp.toNatClampNeg n.toNatClampNeg)))).heap = H.setIfInBounds a (vp_cell c0 (n1, .inl (va_cpy f g sp.toNatClampNeg dp.toNatClampNeg n.toNatClampNeg))) := by rw [← hT]; rfl
  obtain ⟨t, a1, b1⟩ := kk _ _ (show (H.setIfInBounds a _)[a]? = some _ by simp [Array.getElem?_setIfInBounds, hl]) (by simp) (fun q hq => by simp [Array.getElem?_setIfInBounds, Ne.symm hq]) (fun z hz => by
      obtain ⟨y, -, hy⟩ := List.mem_map.mp hz
      rw [← hy]) _ hheap X'
  exact ⟨t, step t a1, b1⟩
theorem o_copy {idx a1 b1 : Nat} {z : Int} (hq : jm_lk (jm_o i) idx = (13, a1, b1, z)) (X : jm_X D cA ad adV B H0 p R s m args meth c i) (hd : decode (jm_b i) pc = .ok (.invokestatic idx, 3)) (h : jm_ins i (.invokestatic idx) pc lv st w = some (.inl g)) (k : jm_C D cA ad B H0 p l e R s m args below meth c Q i n0 k0 g) : jm_C D cA ad B H0 p l e R s m args below meth c Q i n0 k0 (pc, lv, st, w) := by
  obtain ⟨hx, hb, hml, hown, hts, hlk, hini, hrt, hfr, hlo, hKK, had⟩ := X
  intro ls H locs cells slots hl hrep hlocs hn hk
  simp only [jm_ins, jgo, hq] at h
  split at h
  · rename_i h9
    cases h9
  · rename_i x1 x2 n dp a sp b t h9
    split at h
    · rename_i hS
      obtain ⟨g1, g2, g3, g4, g5, g6, g7, g8, g9, hab, g10, g11, g12⟩ := hS
      have h := Sum.inl.inj (Option.some.inj h)
      subst h
      have hr := jm_rest ad g10
      have hSa : mS w a = (2, 0, (mS w a).2.2) := Prod.ext g1 (Prod.ext g2 rfl)
      have hSb : mS w b = (2, 0, (mS w b).2.2) := Prod.ext g3 (Prod.ext g4 rfl)
      obtain ⟨ha64, halt, hn3, -, hcell⟩ := hrep.2.2.2.1 a 0 _ hSa
      obtain ⟨hb64, hblt, hn4, -, hcelb⟩ := hrep.2.2.2.1 b 0 _ hSb
      have hBa := jm_Bad had ha64
      have cn : ∀ x, (Int32.ofInt x).toNatClampNeg = jix x := fun x => j32_clamp x
      have p1 : ¬ Int32.ofInt sp < 0 := fun q => by have := j32_lt0.mp q; omega
      have p2 : ¬ Int32.ofInt dp < 0 := fun q => by have := j32_lt0.mp q; omega
      have p3 : ¬ Int32.ofInt n < 0 := fun q => by have := j32_lt0.mp q; omega
      have hnf : nativeFrameWords "java/lang/System" "arraycopy" 5 = 7 := by decide
      have p4 : (Int32.ofInt sp).toNatClampNeg + (Int32.ofInt n).toNatClampNeg ≤ (mS w b).2.2 := by rw [cn, cn]; unfold jix; omega
      have p5 : (Int32.ofInt dp).toNatClampNeg + (Int32.ofInt n).toNatClampNeg ≤ (mS w a).2.2 := by rw [cn, cn]; unfold jix; omega
      refine jm_wcopy (n0 := (mS w b).2.2) (n1 := (mS w a).2.2) (f := fun j => Int32.ofInt (mI w b j)) (g := fun j => Int32.ofInt (mI w a j)) (sp := Int32.ofInt sp) (dp := Int32.ofInt dp) (n := Int32.ofInt n) hx hb (by rw [hml]; exact hl.1.symm) hown (jm_mlink hts hq (Or.inr (Or.inr (Or.inr rfl)))) (hts _ jw_cpN) (hts _ jw_cpS) (hts _ jw_cpI) (jm_tyA hKK).1 hcelb hcell p1 p2 p3 p4 p5 (by omega) (by rw [hnf]; omega) hd (fun H1 L e1 e2 e3 e4 => ?_)
      rw [cn, cn, cn] at e1
      refine k ls H1 _ cells slots hl (rep_upd had hrep ha64 rfl rfl (fun b2 hb2 => if_neg hb2) (fun b2 hb2 => rfl) (fun b2 hb2 => rfl) e2 e3 (fun ci2 z2 hc2 => ?_) (fun tg n2 hc2 => ?_)) (fun q hq => ?_) hn hk
      · rw [hSa] at hc2
        cases hc2
      · rw [hSa] at hc2
        cases hc2
        unfold jm_arr
        rw [e1]
        rw [vp_cell_i]
        congr 1
        congr 1
        funext q
        have e7 : mI (cpyI w b (jix sp) a (jix dp) (jix n)) a q = if jix dp ≤ q ∧ q < jix dp + jix n then mI w b (jix sp + (q - jix dp)) else mI w a q := by
          show up1 (mI w) a _ a q = _
          unfold up1
          rw [if_pos rfl]
        unfold jm_el va_cpy
        simp only [e7]
        by_cases hc : jix dp ≤ q ∧ q < jix dp + jix n
        · rw [if_pos hc, if_pos hc]
          rfl
        · rw [if_neg hc, if_neg hc]
          rfl
      · rcases List.mem_append.mp hq with hq | hq
        · exact hlocs q hq
        · rw [e4 q hq]; exact hBa
    · cases h
  · cases h
end PRIM
