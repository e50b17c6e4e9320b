/-! led at the machine: SnakeRow.led throws, the law's own led catches. -/
abbrev zNE : String := "java/util/NoSuchElementException"
abbrev zRT : String := "java/lang/RuntimeException"
abbrev zEx : String := "java/lang/Exception"
abbrev zTx : String := "nobody such stands on stairs"
def zQ : List Cond := qxS RX7 309 zNE zRT 13 prog_26_method_4_code [zEx]
def zPs : List (Nat × Nat) := [(1, 18), (6, 10), (6, 19), (6, 21), (6, 24), (6, 26), (6, 11), (6, 12), (1, 28), (1, 29), (6, 13), (6, 18), (6, 22), (6, 42), (6, 0), (6, 43), (6, 2), (6, 44), (6, 4), (6, 14), (6, 16), (6, 6), (6, 38), (6, 39), (6, 41), (6, 6), (6, 29), (6, 30), (6, 31), (6, 32), (6, 32), (6, 33), (6, 34), (6, 35), (6, 35), (6, 36), (6, 37), (6, 38), (6, 28), (5, 229), (5, 237), (5, 238), (5, 239), (6, 1), (6, 3), (6, 5), (6, 9), (6, 8), (6, 7)]
def zBad : List Cond := [.declares (Bundle.initS zRT), .declares (Bundle.initS zEx), .declares (Bundle.initS Bundle.tN), .castable zNE zNE]
set_option maxRecDepth 100000 in
theorem zq_ot : (Cond.classLink RX7 305 zNE :: Cond.initialized zNE :: zQ).all vx_ot = true := by decide +kernel
set_option maxRecDepth 100000 in
theorem zq_z : ((zQ.filter goodWord).zip zPs).all (fun q => jm_at q.2 q.1 && jm_okw q.1) = true := by decide +kernel
theorem zq_l : (zQ.filter goodWord).length = zPs.length := by decide +kernel
theorem zq_g : ∀ w ∈ zQ.filter goodWord, w ∈ jm_all := jm_zip zq_l zq_z
theorem zq_b : (zQ.filter (fun w => !goodWord w)).all (fun w => decide (w ∈ zBad)) = true := by decide +kernel
theorem zq_n : ∀ w ∈ zQ.filter (fun w => !goodWord w), w ∈ zBad := fun w h => of_decide_eq_true (List.all_eq_true.mp zq_b w h)
theorem zq_bt : ∀ w ∈ zBad, w.onTables = true := fun w h => List.all_eq_true.mp (show zBad.all Cond.onTables = true by decide +kernel) w h
theorem zq_at {args : Array Value} {s : State} (hts : ∀ w ∈ jm_all, w.before args s = true) (hz : ∀ w ∈ zBad, va_Nw w s) : ∀ w ∈ zQ, w.before args s = true :=
  vx_hat (fun w h => hts w (zq_g w h)) zq_n (fun w hw => va_Nw.use (zq_bt w hw) (hz w hw))
/-- what the throw asks of the heap -/
def zE (B sa : Nat) (H0 : Heap) (s : State) : Prop := vx_Zq Bundle.tN "UNASSIGNED_STACK" Bundle.steD (fun q => B ≤ q) s H0 ∧ vx_Zq Bundle.tN "SUPPRESSED_SENTINEL" Bundle.listD (fun q => B ≤ q) s H0 ∧ vk_R RX7 307 zTx sa s ∧ ∀ w ∈ zBad, va_Nw w s
theorem zE.warm {B sa : Nat} {H0 : Heap} {s U : State} (hW : s.WarmedH U.vm) (h : zE B sa H0 s) : zE B sa H0 U := by
  obtain ⟨h1, h2, h3, h4⟩ := h
  refine ⟨vx_Zq.moved hW.alike h1, vx_Zq.moved hW.alike h2, vk_R.warm hW h3, fun w hw => ?_⟩
  have h := h4 w hw
  simp only [zBad, List.mem_cons, List.not_mem_nil, or_false] at hw
  rcases hw with rfl | rfl | rfl | rfl
  · exact va_Nw.warmD hW h
  · exact va_Nw.warmD hW h
  · exact va_Nw.warmD hW h
  · exact va_Nw.warmC hW h
theorem jm_nx_grow {i : Nat} {f g : jmF} (h : jm_nx rn i f = some (.inl g)) : mN f.2.2.2 ≤ mN g.2.2.2 ∧ mK f.2.2.2 ≤ mK g.2.2.2 := by
  unfold jm_nx at h
  split at h
  · rename_i g2 hs
    cases h
    exact jm_step_grow hs
  · rename_i j as g2 hs
    have hgw : g2.2.2.2 = f.2.2.2 := jm_step_grow hs
    split at h
    · rename_i r3 w3 hc
      split at h
      · cases h
      · cases h
        obtain ⟨n, hc⟩ := rn_ex hc
        obtain ⟨g1, g3⟩ := jm_ex_grow _ _ _ _ _ hc
        simp only at g1 g3
        rw [hgw] at g1 g3
        exact ⟨g1, g3⟩
    · cases h
  · cases h
  · cases h
section LED
variable {D : va_G} {cA : Nat → ClassId} {ad adV : Nat → Nat} {B sa : Nat} {H0 : Heap} {p : Program} {l : Launch} {e : Env} {R : Room} {s : State} {m : MethodId} {args : Array Value} {below : List Frame} {meth : Method} {c : Code} {Q : State → Prop} {i n0 k0 : Nat} {w w1 : jmW} {x y k : Int}
theorem jm_nx_C (had : ∀ j, ad (64 + j) = B + j) {f g : jmF} (h : jm_nx rn i f = some (.inl g)) (X : jm_X D cA ad adV B H0 p R s m args meth c i) (hgN : mN g.2.2.2 ≤ n0 + R.cells) (hgK : mK g.2.2.2 ≤ k0 + R.slots) (k : jm_C D cA ad B H0 p l e R s m args below meth c Q i n0 k0 g) : jm_C D cA ad B H0 p l e R s m args below meth c Q i n0 k0 f := by
  unfold jm_nx at h
  split at h
  · rename_i g2 hs
    cases h
    exact jm_one hs X hgN hgK k
  · rename_i j as g2 hs
    split at h
    · rename_i r3 w3 hc
      split at h
      · cases h
      · rename_i hr3
        cases h
        obtain ⟨n, hc⟩ := rn_ex hc
        exact jm_callstep (jm_sound had n) hs hc hr3 X hgN hgK k
    · cases h
  · cases h
  · cases h
theorem ksg_C (had : ∀ j, ad (64 + j) = B + j) (X : jm_X D cA ad adV B H0 p R s m args meth c 171) {P : jmF → Prop} (hP : ∀ f, P f → (mN f.2.2.2 ≤ n0 + R.cells ∧ mK f.2.2.2 ≤ k0 + R.slots) ∧ jm_C D cA ad B H0 p l e R s m args below meth c Q 171 n0 k0 f) : ∀ n f, ksg n P f → (mN f.2.2.2 ≤ n0 + R.cells ∧ mK f.2.2.2 ≤ k0 + R.slots) ∧ jm_C D cA ad B H0 p l e R s m args below meth c Q 171 n0 k0 f := by
  intro n
  induction n with
  | zero => intro f h; exact h.elim
  | succ n ih =>
    intro f h
    rcases h with ⟨-, h⟩ | ⟨-, g, h1, h2⟩
    · exact hP f h
    · obtain ⟨⟨a1, a2⟩, a3⟩ := ih g h2
      obtain ⟨b1, b2⟩ := jm_nx_grow h1
      exact ⟨⟨Nat.le_trans b1 a1, Nat.le_trans b2 a2⟩, jm_nx_C had h1 X a1 a2 a3⟩
theorem jsg_C (had : ∀ j, ad (64 + j) = B + j) (X : jm_X D cA ad adV B H0 p R s m args meth c 312) {P : jmF → Prop} (hP : ∀ f, P f → (mN f.2.2.2 ≤ n0 + R.cells ∧ mK f.2.2.2 ≤ k0 + R.slots) ∧ jm_C D cA ad B H0 p l e R s m args below meth c Q 312 n0 k0 f) : ∀ n f, jsg n P f → (mN f.2.2.2 ≤ n0 + R.cells ∧ mK f.2.2.2 ≤ k0 + R.slots) ∧ jm_C D cA ad B H0 p l e R s m args below meth c Q 312 n0 k0 f := by
  intro n
  induction n with
  | zero => intro f h; exact h.elim
  | succ n ih =>
    intro f h
    rcases h with ⟨-, h⟩ | ⟨-, g, h1, h2⟩
    · exact hP f h
    · obtain ⟨⟨a1, a2⟩, a3⟩ := ih g h2
      obtain ⟨b1, b2⟩ := jm_nx_grow h1
      exact ⟨⟨Nat.le_trans b1 a1, Nat.le_trans b2 a2⟩, jm_nx_C had h1 X a1 a2 a3⟩
/-- the cell of what was thrown -/
theorem rep_thr (had : ∀ j, ad (64 + j) = B + j) {t : State} {H : Heap} (h : jm_rep D cA ad B H0 w s H) (hvm : s.vm.Alike t.vm) (hz : t.heap.size = H.size + 1) (hq : ∀ q : Nat, q < H.size → t.heap[q]? = H[q]?) : jm_rep D cA ad B H0 (newC w (7, 0, 0) 6) t t.heap := by
  refine jm_rep.warm hvm ?_
  obtain ⟨h1, h2, h3, h4, h5, h6⟩ := h
  have key : ∀ b, b ≠ 64 + mN w → mS (newC w (7, 0, 0) 6) b = mS w b ∧ mI (newC w (7, 0, 0) 6) b = mI w b ∧ mR (newC w (7, 0, 0) 6) b = mR w b ∧ mJ (newC w (7, 0, 0) 6) b = mJ w b := by
    intro b hb
    refine ⟨if_neg hb, if_neg hb, if_neg hb, if_neg hb⟩
  have key2 : mS (newC w (7, 0, 0) 6) (64 + mN w) = (7, 0, 0) := if_pos rfl
  have hNN : mN (newC w (7, 0, 0) 6) = mN w + 1 := rfl
  have no : ∀ {z : Nat × Nat × Nat}, mS (newC w (7, 0, 0) 6) (64 + mN w) = z → z.1 ≠ 7 → False := fun hb hn => hn (by rw [← hb, key2])
  have adr : ∀ b, 64 ≤ b → b < 64 + mN w → ad b < H.size := by
    intro b hb hb2
    have e1 := had (b - 64)
    rw [show 64 + (b - 64) = b by omega] at e1
    omega
  refine ⟨by rw [hz, h1, hNN]; omega, fun q hqB => (hq q (by omega)).trans (h2 q hqB), ?_, ?_, ?_, ?_⟩
  · intro b ci z hb
    by_cases hba : b = 64 + mN w
    · subst hba
      exact (no hb (by show (1 : Nat) ≠ 7; decide)).elim
    · obtain ⟨k1, k2, k3, k4⟩ := key b hba
      rw [k1] at hb
      obtain ⟨g1, g2, q, g3, g4⟩ := h3 b ci z hb
      refine ⟨g1, by omega, q, g3, (g4.kept (hq _ (adr b g1 g2))).to (fun k _ => ?_)⟩
      unfold jm_fd
      rw [k2, k3, k4]
  · intro b tg m hb
    by_cases hba : b = 64 + mN w
    · subst hba
      exact (no hb (by show (2 : Nat) ≠ 7; decide)).elim
    · obtain ⟨k1, k2, k3, k4⟩ := key b hba
      rw [k1] at hb
      obtain ⟨g1, g2, g3, g4, g5⟩ := h4 b tg m hb
      refine ⟨g1, by omega, g3, g4, ?_⟩
      unfold jm_arr
      rw [hq _ (adr b g1 g2)]
      rw [show (fun j => jem ad (jm_el (newC w (7, 0, 0) 6) b tg j)) = (fun j => jem ad (jm_el w b tg j)) from by
        funext j
        unfold jm_el
        rw [k2, k3, k4]]
      exact g5
  · intro b tg m hb
    by_cases hba : b = 64 + mN w
    · subst hba
      exact (no hb (by show (4 : Nat) ≠ 7; decide)).elim
    · obtain ⟨k1, k2, k3, k4⟩ := key b hba
      rw [k1] at hb
      obtain ⟨g1, g2, g3, g4, scr, g5, g6, g7, g8, g9, g10⟩ := h5 b tg m hb
      refine ⟨g1, g2, g3, g4, scr, g5, g6, g7, g8, g9, fun j hj => ?_⟩
      rw [k2]
      exact g10 j hj
  · intro b k z hb
    by_cases hba : b = 64 + mN w
    · subst hba
      exact (no hb (by show (3 : Nat) ≠ 7; decide)).elim
    · rw [(key b hba).1] at hb
      exact h6 b k z hb
/-- what a call of led finds -/
def zPc (D : va_G) (cA : Nat → ClassId) (ad adV : Nat → Nat) (B sa : Nat) (H0 : Heap) (as : List jmV) (w : jmW) : Array Value → State → Prop := va_Pc (as.map (jem ad)) (fun U => jm_rep D cA ad B H0 w U U.heap ∧ jm_KK D cA ad adV B H0 U ∧ zE B sa H0 U)
theorem zPc_blind {as : List jmV} {w : jmW} : FrameBlind (zPc D cA ad adV B sa H0 as w) := fun a U g mk q => ⟨q.1, q.2.1.warm (U := U.calling g mk a) (Vm.Alike.refl U.vm), q.2.2.1.warm (U := U.calling g mk a) (State.WarmedH.refl U), q.2.2.2.warm (U := U.calling g mk a) (State.WarmedH.refl U)⟩
def zXC (D : va_G) (cA : Nat → ClassId) (ad : Nat → Nat) (B : Nat) (H0 : Heap) (w : jmW) : String → State → State → Prop := fun E _ t => E = zNE ∧ jm_rep D cA ad B H0 (newC w (7, 0, 0) 6) t t.heap
def zRs : Room := { frames := 13, cells := 1, slots := 6, locals := 500 }
def zRl (mc ms : Nat) : Room := { frames := 14, cells := mc, slots := ms, locals := 523 }
theorem ze_thr (had : ∀ j, ad (64 + j) = B + j) (hlf : l.stackTraces = false) (hk : ∀ P : jmF → Prop, (∀ lv, P (70, lv, [], w)) → kto P (0, [(0, jvr 64), (1, .inl x)], [], w)) : vx_Met l (jm_y 171) (.code (jm_y 171) (jm_b 171) (jm_m 171) (jm_r 171) :: jm_all) zRs (zPc D cA ad adV B sa H0 [jvr 64, .inl x] w) (fun _ _ _ _ => False) (zXC D cA ad B H0 w) 1 6 (fun q => B ≤ q) := by
  obtain ⟨t1, t2, t3, t4, t5, t6, t7, t8, t9, t10, t11, t12⟩ := jm_cal (j := 171) (by decide) (by decide +kernel)
  refine vx_ofW (cc := jm_b 171) (maxL := jm_m 171) (ret := jm_r 171) (by decide +kernel) rfl ?_
  intro p e s m args below meth c s₁ X0 hml hext hv
  obtain ⟨rfl, hrep, hKK, hzE⟩ := hv
  have hown : s.vm.findClass (jm_own (jm_o 171)) = some m.cls := by
    rw [← t7]
    exact findClass_of_methodNamed X0.named
  have hts := jm_tsof (atoms_spec X0.pre)
  have hX : jm_X D cA ad adV B H0 p (headSpec (.code (jm_y 171) (jm_b 171) (jm_m 171) (jm_r 171) :: jm_all) zRs).room s m (([jvr 64, .inl x] : List jmV).map (jem ad)).toArray meth c 171 := ⟨X0.exec, X0.bytes, hml, hown, hts, X0.notSynchronized, fun z => absurd z (by decide +kernel), X0.returns, by decide +kernel, by decide +kernel, hKK, had⟩
  have hl := lv_entry (([jvr 64, .inl x] : List jmV).map (jem ad)) (n := jm_m 171) (by rw [jas_len]; exact Nat.le_of_ble_eq_true rfl)
  rw [lg_entry_eq]
  generalize (lg_sl (([jvr 64, .inl x] : List jmV).map (jem ad)) ++ List.replicate (jm_m 171 - (lg_sl (([jvr 64, .inl x] : List jmV).map (jem ad))).length) Slot.unset).toArray = ls at hl ⊢
  rw [← jas_args] at hl
  obtain ⟨n, hn⟩ := hk (fun f => f.1 = 70 ∧ f.2.2.1 = [] ∧ f.2.2.2 = w) (fun lv => ⟨rfl, rfl, rfl⟩)
  have hP : ∀ f : jmF, (f.1 = 70 ∧ f.2.2.1 = [] ∧ f.2.2.2 = w) → (mN f.2.2.2 ≤ mN w + zRs.cells ∧ mK f.2.2.2 ≤ mK w + zRs.slots) ∧ jm_C D cA ad B H0 p l e zRs s m (([jvr 64, .inl x] : List jmV).map (jem ad)).toArray below meth c (vx_MQ below (fun _ _ _ _ => False) (zXC D cA ad B H0 w) (([jvr 64, .inl x] : List jmV).map (jem ad)).toArray s 1 6 (fun q => B ≤ q)) 171 (mN w) (mK w) f := by
    intro f hf
    obtain ⟨pc, lv, st, w2⟩ := f
    obtain ⟨h1, h2, h3⟩ := hf
    simp only at h1 h2 h3
    subst h1 h2 h3
    refine ⟨⟨by show mN w2 ≤ mN w2 + 1; omega, by show mK w2 ≤ mK w2 + 6; omega⟩, ?_⟩
    intro ls1 H locs cells slots hl1 hrep1 hloc hn1 hk1
    have hc0 : cells = 0 := by simp only at hn1; omega
    have hs0 : slots = 0 := by simp only at hk1; omega
    subst hc0 hs0
    exact qx_throw (A := fun q => B ≤ q) (rest := []) (own := RX7) (cls := zNE) (Y := zRT) (text := zTx) (names := [zEx]) (ik := 305) (is := 307) (ic := 309) (ix := 13) (sa := sa) (rx := prog_26_method_4_code) (cc := jm_b 171) (pc := 70) (H := H) (locs := locs) (ls := ls1) X0.exec X0.bytes hlf
      (by decide +kernel) (by decide +kernel) (by decide +kernel) (by decide +kernel) hown (by decide +kernel) (by decide +kernel) (by decide +kernel)
      (hts _ (jm_at_in (p := (5, 228)) (by decide +kernel) (by decide +kernel))) (hts _ (jm_at_in (p := (1, 21)) (by decide +kernel) (by decide +kernel))) hzE.2.2.1 (zq_at hts hzE.2.2.2) (fun w hw => List.all_eq_true.mp zq_ot w hw)
      (hzE.1.kept (fun a _ ha => hrep.2.1 a (Nat.lt_of_not_le ha))) (hzE.2.1.kept (fun a _ ha => hrep.2.1 a (Nat.lt_of_not_le ha)))
      ⟨by rw [hrep.1, hrep1.1]; exact Nat.le_refl _, fun q _ hqB => (hrep1.2.1 q (Nat.lt_of_not_le hqB)).trans (hrep.2.1 q (Nat.lt_of_not_le hqB)).symm, hloc⟩ (hl1.1.trans hml.symm)
      (jd_of jb_171 dX7_led_70) (jd_of jb_171 dX7_led_73) (jd_of jb_171 dX7_led_74) (jd_of jb_171 dX7_led_77) (jd_of jb_171 dX7_led_80) (fun x hx => (hext x hx).elim)
      (by decide) (by decide) (by decide) (by decide) X0.notSynchronized (fun t hvm hz hq => ⟨rfl, rep_thr had hrep1 hvm hz hq⟩) hloc (by decide) (by decide)
  have hC := (ksg_C (R := zRs) had hX hP n _ hn).2
  exact hC ls s.heap [] 0 0 hl hrep (fun q hq => by cases hq) rfl rfl
abbrev zLd : Cond := .codeWith yL_led cL_led 4 (some .int) [(0, 9, 12, 13)]
theorem zl_c : zLd ∈ jm_all := jm_at_in (p := (5, 222)) (by decide +kernel) (by decide +kernel)
theorem zl_s : Cond.static yL_led ∈ jm_all := jm_at_in (p := (5, 221)) (by decide +kernel) (by decide +kernel)
theorem zl_m : Cond.methodLink RL 218 yL_led ∈ jm_all := jm_at_in (p := (5, 220)) (by decide +kernel) (by decide +kernel)
theorem zl_i : Cond.initialized yL_led.cls ∈ jm_all := jm_at_in (p := (1, 0)) (by decide +kernel) (by decide +kernel)
theorem zl_k : Cond.classLink RL 13 zNE ∈ jm_all := jm_at_in (p := (5, 223)) (by decide +kernel) (by decide +kernel)
theorem zl_7 : Cond.methodLink RL 7 (jm_y 171) ∈ jm_all := jm_at_in (p := (5, 224)) (by decide +kernel) (by decide +kernel)
/-- a method with handlers, from its body -/
theorem ze_ofWH {y : MethodName} {ws ws' : List Cond} {rm : Room} {Pc : Array Value → State → Prop} {Qc : Array Value → State → Outcome → State → Prop} {mc ms : Nat} {free : Addr → Prop} {cc : ByteArray} {maxL : Nat} {ret : Option FieldType} {hh : List (Nat × Nat × Nat × Nat)}
    (hy : plainName y.cls = true) (hw : ws = Cond.codeWith y cc maxL ret hh :: ws')
    (body : ∀ p e s m args below meth c s₁, BodyLoose p l y (headSpec ws rm) cc maxL ret e s m args below meth c s₁ → c.maxLocals = maxL → Pc args s →
      W p l e (headSpec ws rm).room s m args below meth c s.heap [] 0 0 (MQ below Qc args s mc ms free) (entryFrame m args maxL)) : Met l y ws rm Pc Qc mc ms free := by
  refine MetFree.of_bodyS (code := cc) (maxLocals := maxL) (ret := ret) hy ?_ ?_
  · intro args s m h hn
    obtain ⟨m9, meth, c, hn9, h1, h2, h3, h4, -, h5, h6, -⟩ := Cond.codeWith_spec (atoms_spec (ws := ws) h _ (by rw [hw]; exact List.mem_cons_self))
    cases hn.symm.trans hn9
    exact ⟨meth, c, h1, h2, h3, h4, h5, h6⟩
  · intro p e s m args below meth c s₁ B hml hP _
    have hh0 : s₁.heap = s.heap := by rw [B.state]; rfl
    obtain ⟨t, a1, o, b1, b2, b3⟩ := body p e s m args below meth c s₁ B hml hP s₁ hh0 (Stand.of_body B)
    exact ⟨t, o, a1, b1, b2, ⟨b3.1, b3.2⟩⟩
abbrev zAs (x : Int) : List jmV := [jvr 64, .inl x, jvr 252]
/-- the law's led, up to its call and behind it -/
theorem ze_body {mc ms : Nat} {Qc : Array Value → State → Outcome → State → Prop} (had : ∀ j, ad (64 + j) = B + j) (h64 : mS w 64 = (1, 7, 0))
    (body : ∀ p e s m args below meth c, p.tables.exec = Jvm.exec → c.code = cL_led → c.maxLocals = 4 → s.vm.findClass RL = some m.cls → (∀ w ∈ jm_all, w.before args s = true) → meth.locks = false → meth.sig.returnType = some .int → c.exceptionTable.toList = [⟨0, 9, 12, 13⟩] → jm_KK D cA ad adV B H0 s → zE B sa H0 s → jm_rep D cA ad B H0 w s s.heap →
      ∀ ls, lv_has ls 4 (lv_args 0 ((zAs x).map (jem ad))) → W p l e (zRl mc ms) s m args below meth c s.heap [] 0 0 (MQ below Qc args s mc ms (fun q => B ≤ q)) (F0 m 4 ls [.int (Int32.ofInt x), .ref (ad 64), .int 0, .ref (ad 252)])) :
    Met l yL_led (zLd :: jm_all) (zRl mc ms) (zPc D cA ad adV B sa H0 (zAs x) w) Qc mc ms (fun q => B ≤ q) := by
  refine ze_ofWH (by decide +kernel) rfl ?_
  intro p e s m args below meth c s₁ X0 hml hv
  obtain ⟨rfl, hrep, hKK, hzE⟩ := hv
  have hts := jm_tsof (atoms_spec X0.pre)
  have hown : s.vm.findClass RL = some m.cls := findClass_of_methodNamed X0.named
  have htab : c.exceptionTable.toList = [⟨0, 9, 12, 13⟩] := (vx_table (x := yL_led) X0 (hts _ zl_c)).trans rfl
  have hl := lv_entry ((zAs x).map (jem ad)) (n := 4) (by rw [jas_len]; exact Nat.le_of_ble_eq_true rfl)
  rw [lg_entry_eq]
  generalize (lg_sl ((zAs x).map (jem ad)) ++ List.replicate (4 - (lg_sl ((zAs x).map (jem ad))).length) Slot.unset).toArray = ls at hl ⊢
  have l0 : ls[0]? = some (.val (.ref (ad 64))) := hl.2.2 (0, .ref (ad 64)) (List.mem_cons_self)
  have l1 : ls[1]? = some (.val (.int (Int32.ofInt x))) := hl.2.2 (1, .int (Int32.ofInt x)) (List.mem_cons_of_mem _ List.mem_cons_self)
  have l2 : ls[2]? = some (.val (.ref (ad 252))) := hl.2.2 (2, .ref (ad 252)) (List.mem_cons_of_mem _ (List.mem_cons_of_mem _ List.mem_cons_self))
  refine lv_aload_n X0.exec X0.bytes dL_led_0 rfl l2 (lv_iconst X0.exec X0.bytes dL_led_1 (v := 0) rfl (lv_aload_n X0.exec X0.bytes dL_led_2 rfl l0 (lv_iload_n X0.exec X0.bytes dL_led_3 rfl l1 ?_)))
  exact body p e s m _ below meth c X0.exec X0.bytes hml hown hts X0.notSynchronized X0.returns htab hKK hzE hrep ls hl
theorem ze_cat (had : ∀ j, ad (64 + j) = B + j) (hlf : l.stackTraces = false) (h64 : mS w 64 = (1, 7, 0)) (hk : ∀ P : jmF → Prop, (∀ lv, P (70, lv, [], w)) → kto P (0, [(0, jvr 64), (1, .inl x)], [], w)) : Met l yL_led (zLd :: jm_all) (zRl 1 6) (zPc D cA ad adV B sa H0 (zAs x) w) (jm_Qc D cA ad B H0 (some (.inl 1)) (newC w (7, 0, 0) 6)) 1 6 (fun q => B ≤ q) := by
  refine ze_body had h64 ?_
  intro p e s m args below meth c hx hb hml hown hts hlk hret htab hKK hzE hrep ls hl T hT X
  obtain ⟨t1, t2, t3, t4, t5, t6, t7, t8, t9, t10, t11, t12⟩ := jm_cal (j := 171) (by decide) (by decide +kernel)
  have hM := ze_thr (D := D) (cA := cA) (adV := adV) (sa := sa) (H0 := H0) had hlf hk
  obtain ⟨c1, c2, q9, hq9, cell, c3, c4, c5, -⟩ := hrep.2.2.1 64 _ _ h64
  obtain ⟨-, -, -, -, -, c6, -⟩ := jm_cls hq9
  have hrec : ∃ cellB : Cell, s.heap[ad 64]? = some cellB ∧ cellB.vm.isStatics = false ∧ s.vm.findClass (jm_y 171).cls = some cellB.cls := by
    refine ⟨cell, c3, by rw [c5]; rfl, ?_⟩
    rw [t7]
    show s.vm.findClass (jm_own 7) = _
    rw [c6, c4]
    exact (hKK.1.1 _ _ hq9).2.1
  have hr := vx_runV (meth := meth) (g := F0 m 4 ls [.int (Int32.ofInt x), .ref (ad 64), .int 0, .ref (ad 252)]) (H := s.heap) (locs := []) (cells := 0) (slots := 0) (below := below) (b := ad 64) (As := [.int (Int32.ofInt x)]) (rest := [.int 0, .ref (ad 252)]) (R := zRl 1 6) (e := e) ⟨hx, hb, hml, hown, hts⟩ hM ⟨⟨rfl, rfl, by decide, by show 8 + (jm_m 171 + 11) + 500 ≤ 523; decide +kernel, jm_goodc t1 hts, List.mem_cons_self, hts _ t1, hts _ t2, t10, jm_nof t8, hts _ zl_7⟩, hts _ (t4 (by decide +kernel)), hts _ (t5 (by decide +kernel))⟩ ⟨zPc_blind, hrec, fun U hU hW => ⟨rfl, by rw [hU]; exact hrep.warm hW.alike, hKK.warm hW, hzE.warm hW⟩⟩ rfl (by show 1 = jm_a 171; decide +kernel) hl.1 rfl (by show 2 * 0 + (1 + (1 + 0)) ≤ 8; decide) dL_led_4 ⟨by decide, by decide⟩
  rcases hr T hT X with ⟨v, st₀, t, T', L, h0, X', hL, e1, e2, hq, st⟩ | ⟨q, st₀, t, T', L, E, ce, h0, X', hL, e1, e2, hq, hce, hcv, hcl, st⟩
  · exact hq.elim
  · obtain ⟨rfl, hr2⟩ := hq
    have hW := X'.warmed
    have hr3 : jm_rep D cA ad B H0 (newC w (7, 0, 0) 6) s T'.heap := by
      rw [e1]
      rw [e2] at hW
      exact hr2.warm hW.alike.symm
    have hc9 : T'.heap[q]? = some ce := by rw [e1]; exact hce
    obtain ⟨t2, a1, b1⟩ := vx_catch (rest := [.int 0, .ref (ad 252)]) (ls := ls) (pc := 4) (own := RL) (name := zNE) (Q := MQ below (jm_Qc D cA ad B H0 (some (.inl 1)) (newC w (7, 0, 0) 6)) args s 1 6 (fun q => B ≤ q)) hown [] ⟨0, 9, 12, 13⟩ [] htab (fun z hz => by cases hz) (by decide) (by decide) (hts _ zl_k) (va_Nw.use rfl (hzE.2.2.2 _ (by decide +kernel))) hc9 hcv hcl
      (lv_astore_n (k := 3) hx hb dL_led_12 rfl hl (by decide) rfl (fun ls' hl' => lv_iconst hx hb dL_led_13 rfl (W.iret (v := Int32.ofInt 1) hx hb hret (fun t ht hW => ⟨rfl, by rw [ht]; exact hr3.warm hW.alike⟩) hL dL_led_14 hlk))) T' rfl X'
    exact ⟨t2, st.trans a1, b1⟩
theorem ze_ret (had : ∀ j, ad (64 + j) = B + j) (h64 : mS w 64 = (1, 7, 0)) (h252 : mS w 252 = (2, 2, 1)) (hc : rn 171 (0, [(0, jvr 64), (1, .inl x)], [], w) = some (some (.inl y), w)) : Met l yL_led (zLd :: jm_all) (zRl 0 0) (zPc D cA ad adV B sa H0 (zAs x) w) (jm_Qc D cA ad B H0 (some (.inl 0)) (setJ w 252 0 (jw y))) 0 0 (fun q => B ≤ q) := by
  refine ze_body had h64 ?_
  intro p e s m args below meth c hx hb hml hown hts hlk hret htab hKK hzE hrep ls hl T hT X
  obtain ⟨t1, t2, t3, t4, t5, t6, t7, t8, t9, t10, t11, t12⟩ := jm_cal (j := 171) (by decide) (by decide +kernel)
  obtain ⟨n, hc⟩ := rn_ex hc
  have hM := jm_met (as := [jvr 64, .inl x]) (D := D) (cA := cA) (adV := adV) (H0 := H0) (jm_sound (l := l) had n) had hc (by decide) (by decide +kernel) (by show 2 ≤ jm_m 171; decide +kernel) (fun z => by cases z)
  rw [Nat.sub_self, Nat.sub_self] at hM
  obtain ⟨c1, c2, q9, hq9, cell, c3, c4, c5, -⟩ := hrep.2.2.1 64 _ _ h64
  obtain ⟨-, -, -, -, -, c6, -⟩ := jm_cls hq9
  have hrec : ∃ cellB : Cell, s.heap[ad 64]? = some cellB ∧ cellB.vm.isStatics = false ∧ s.vm.findClass (jm_y 171).cls = some cellB.cls := by
    refine ⟨cell, c3, by rw [c5]; rfl, ?_⟩
    rw [t7]
    show s.vm.findClass (jm_own 7) = _
    rw [c6, c4]
    exact (hKK.1.1 _ _ hq9).2.1
  have hr := va_runV (meth := meth) (g := F0 m 4 ls [.int (Int32.ofInt x), .ref (ad 64), .int 0, .ref (ad 252)]) (H := s.heap) (locs := []) (cells := 0) (slots := 0) (below := below) (b := ad 64) (As := [.int (Int32.ofInt x)]) (rest := [.int 0, .ref (ad 252)]) (R := zRl 0 0) (e := e) ⟨hx, hb, hml, hown, hts⟩ hM ⟨⟨Nat.sub_self _, Nat.sub_self _, by show jm_f 171 + 1 ≤ 14; decide +kernel, by show 8 + (jm_m 171 + 11) + jm_l 171 ≤ 523; decide +kernel, jm_goodc t1 hts, List.mem_cons_self, hts _ t1, hts _ t2, t10, jm_nof t8, hts _ zl_7⟩, hts _ (t4 (by decide +kernel)), hts _ (t5 (by decide +kernel))⟩ ⟨jm_Pc_blind, hrec, fun U hU hW => ⟨rfl, by rw [hU]; exact hrep.warm hW.alike, hKK.warm hW⟩⟩ rfl (by show 1 = jm_a 171; decide +kernel) hl.1 rfl (by show 2 * 0 + (1 + (1 + 0)) ≤ 8; decide) dL_led_4 ⟨by decide, by decide⟩
  obtain ⟨v, st₀, t, T1, L, h0, X1, hL, e1, e2, ⟨hv, hrep1⟩, st⟩ := hr T hT X
  have hv2 : v = some (.int (Int32.ofInt y)) := by cases hv; rfl
  subst hv2
  have hW := X1.warmed
  have hr3 : jm_rep D cA ad B H0 w s T1.heap := by
    rw [e1]
    rw [e2] at hW
    exact hrep1.warm hW.alike.symm
  obtain ⟨tA0, tA1, tA2, tA3⟩ := jm_tyA hKK
  obtain ⟨ha64, halt, hn3, -, hcell⟩ := hr3.2.2.2.1 252 2 1 h252
  obtain ⟨hx1, hx2, hx3⟩ := jm_inx (j := 0) (n := 1) (by decide)
  have k : W p l e (zRl 0 0) s m args below meth c T1.heap ([] ++ L) 0 0 (MQ below (jm_Qc D cA ad B H0 (some (.inl 0)) (setJ w 252 0 (jw y))) args s 0 0 (fun q => B ≤ q)) (F0 m 7 ls [.int (Int32.ofInt y), .int 0, .ref (ad 252)]) := by
    refine lv_i2l hx hb dL_led_7 (v := Int64.ofInt (jw y)) (j32_i2l y) ?_
    refine W.last hx hb hcell (tA2 _ _) (fun q => by cases q) (j := Int32.ofInt 0) (by rw [arrV_size]; exact hx1) rfl rfl dL_led_8 fun H1 e z oq => ?_
    have hBa := jm_Bad had ha64
    have hr4 : jm_rep D cA ad B H0 (setJ w 252 0 (jw y)) s H1 := rep_upd had hr3 ha64 rfl rfl (fun b hb => rfl) (fun b hb => rfl) (fun b hb => by funext q; exact if_neg (fun z => hb z.1)) z oq (fun ci2 z2 hc2 => by
      rw [h252] at hc2
      cases hc2) (fun tg n2 hc2 => by
      rw [h252] at hc2
      cases hc2
      unfold jm_arr
      rw [e, arrV_store, hx2]
      congr 1)
    exact lv_goto hx hb (pc := 9) (tgt := 15) dL_led_9 (by decide) (lv_iconst hx hb dL_led_15 rfl (W.iret (v := Int32.ofInt 0) hx hb hret (fun t ht hW => ⟨rfl, by rw [ht]; exact hr4.warm hW.alike⟩) (fun q hq => (List.mem_append.mp hq).elim (hL q) (fun hq => by rw [List.mem_singleton.mp hq]; exact hBa)) dL_led_16 hlk))
  obtain ⟨t2, a1, b1⟩ := k T1 rfl X1
  exact ⟨t2, st t2 a1, b1⟩
/-- the law's call of its led -/
theorem ze_use {mc ms : Nat} {lv : jmL} (hM : Met l yL_led (zLd :: jm_all) (zRl mc ms) (zPc D cA ad adV B sa H0 (zAs x) w) (jm_Qc D cA ad B H0 (some (.inl k)) w1) mc ms (fun q => B ≤ q)) (hmc : mN w1 = mN w + mc) (hms : mK w1 = mK w + ms) (X : jm_X D cA ad adV B H0 p R s m args meth c 312) (hRf : 15 ≤ R.frames) (hRl : 546 ≤ R.locals) (hz : zE B sa H0 s) (hgN : mN w1 ≤ n0 + R.cells) (hgK : mK w1 ≤ k0 + R.slots) (kk : jm_C D cA ad B H0 p l e R s m args below meth c Q 312 n0 k0 (1507, lv, [.inl k], w1)) : jm_C D cA ad B H0 p l e R s m args below meth c Q 312 n0 k0 (1504, lv, [jvr 252, .inl x, jvr 64], w) := by
  obtain ⟨hx, hb, hml, hown, hts, hlk, hini, hrt, hfr, hlo, hKK, had⟩ := X
  intro ls H locs cells slots hl hrep hlocs hn hk
  simp only at hl hrep hn hk
  refine jm_use (rest := []) (r := some (.inl k)) (w := w) (w1 := w1) (a := ((zAs x).map (jem ad)).toArray) hl hlocs hn hk (by omega) (by omega) ?_ kk
  rw [show mN w1 - mN w = mc by omega, show mK w1 - mK w = ms by omega]
  exact vx_runSW (hh := [(0, 9, 12, 13)]) (bytes := cL_led) (maxL := 4) (ret := some .int) (n := 3) (index := 218) (own := RL) (cc := jm_b 312) (nL := jm_m 312) (Ts := jm_all) (As := (zAs x).map (jem ad)) (rest := []) ⟨hx, hb, hml, hown, hts⟩ hM ⟨⟨rfl, rfl, by show 14 + 1 ≤ _; omega, by show 8 + (4 + 11) + 523 ≤ _; omega, jm_goodc zl_c hts, List.mem_cons_self⟩, hts _ zl_c, hts _ zl_i, ⟨by decide +kernel, by decide +kernel⟩, jm_nof (by decide +kernel), hts _ zl_m, hts _ zl_s⟩ ⟨zPc_blind, fun U hU hW => ⟨rfl, by rw [hU]; exact hrep.warm hW.alike, hKK.warm hW, hz.warm hW⟩⟩ rfl rfl hl.1 rfl (by show 2 * 0 + 0 ≤ 8; decide) (jd_of jb_312 dL_law_1504) ⟨by omega, by omega⟩
end LED
