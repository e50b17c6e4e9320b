section MAIN
variable {D : va_G} {cA : Nat → ClassId} {ad adV : Nat → Nat} {B : Nat} {H0 : Heap} {p : Program} {l : Launch} {e : Env} {R : Room} {s : State} {m : MethodId} {args : Array Value} {below : List Frame} {meth : Method} {c : Code} {Q : State → Prop} {i n0 k0 : Nat}
def jm_S (D : va_G) (cA : Nat → ClassId) (ad adV : Nat → Nat) (B : Nat) (H0 : Heap) (l : Launch) (n : Nat) : Prop :=
  ∀ (i : Nat) (f : jmF) (r : Option jmV) (w1 : jmW), jm_ex n i f = some (r, w1) → ∀ (p : Program) (e : Env) (R : Room) (s : State) (m : MethodId) (args : Array Value) (below : List Frame) (meth : Method) (c : Code) (Q : State → Prop) (n0 k0 : Nat), jm_X D cA ad adV B H0 p R s m args meth c i → mN w1 ≤ n0 + R.cells → mK w1 ≤ k0 + R.slots → (∀ f1 : jmF, f1.2.2.2 = w1 → jm_step i f1 = some (.inr (.inr r)) → jm_C D cA ad B H0 p l e R s m args below meth c Q i n0 k0 f1) → jm_C D cA ad B H0 p l e R s m args below meth c Q i n0 k0 f
def jm_Pc (D : va_G) (cA : Nat → ClassId) (ad adV : Nat → Nat) (B : Nat) (H0 : Heap) (as : List jmV) (w : jmW) : Array Value → State → Prop := va_Pc (as.map (jem ad)) (fun U => jm_rep D cA ad B H0 w U U.heap ∧ jm_KK D cA ad adV B H0 U)
def jm_Qc (D : va_G) (cA : Nat → ClassId) (ad : Nat → Nat) (B : Nat) (H0 : Heap) (r : Option jmV) (w1 : jmW) : Array Value → State → Outcome → State → Prop := fun _ _ o t => o = .returned (r.map (jem ad)) ∧ jm_rep D cA ad B H0 w1 t t.heap
def jm_rm (j : Nat) (w w1 : jmW) : Room := { frames := jm_f j, cells := mN w1 - mN w, slots := mK w1 - mK w, locals := jm_l j }
theorem jm_met {n j : Nat} {as : List jmV} {w w1 : jmW} {r : Option jmV} (hS : jm_S D cA ad adV B H0 l n) (had : ∀ j, ad (64 + j) = B + j) (h : jm_ex n j (0, jas 0 as, [], w) = some (r, w1)) (hj : j < 313) (hk : jm_k j < 3) (hwd : jwd as ≤ jm_m j) (hr : ¬ r = some (jvr 0)) : Met l (jm_y j) (.code (jm_y j) (jm_b j) (jm_m j) (jm_r j) :: jm_all) (jm_rm j w w1) (jm_Pc D cA ad adV B H0 as w) (jm_Qc D cA ad B H0 r w1) (mN w1 - mN w) (mK w1 - mK w) (fun q => B ≤ q) := by
  obtain ⟨t1, t2, t3, t4, t5, t6, t7, t8, t9, t10, t11, t12⟩ := jm_cal hj hk
  obtain ⟨gN, gK⟩ := jm_ex_grow _ _ _ _ _ h
  simp only at gN gK
  refine va_MetF (cc := jm_b j) (maxL := jm_m j) (ret := jm_r j) t9 rfl ?_
  intro p e s m args below meth c s₁ X0 hml hv
  obtain ⟨rfl, hrep, hKK⟩ := hv
  have hown : s.vm.findClass (jm_own (jm_o j)) = some m.cls := by
    rw [← t7]
    exact findClass_of_methodNamed X0.named
  have hX : jm_X D cA ad adV B H0 p (headSpec (.code (jm_y j) (jm_b j) (jm_m j) (jm_r j) :: jm_all) (jm_rm j w w1)).room s m (as.map (jem ad)).toArray meth c j := ⟨X0.exec, X0.bytes, hml, hown, jm_tsof (atoms_spec X0.pre), X0.notSynchronized, fun z => (name_of_methodNamed X0.named X0.method).1.trans (t6 z), X0.returns, Nat.le_refl _, Nat.le_refl _, hKK, had⟩
  have hl := lv_entry (as.map (jem ad)) (n := jm_m j) (by rw [jas_len]; exact hwd)
  rw [lg_entry_eq]
  generalize (lg_sl (as.map (jem ad)) ++ List.replicate (jm_m j - (lg_sl (as.map (jem ad))).length) Slot.unset).toArray = ls at hl ⊢
  rw [← jas_args] at hl
  refine hS j _ r w1 h p e _ s m _ below meth c _ (mN w) (mK w) hX (by show _ ≤ _ + (mN w1 - mN w); omega) (by show _ ≤ _ + (mK w1 - mK w); omega) ?_ ls s.heap [] 0 0 hl hrep (fun q hq => by cases hq) rfl rfl
  intro f1 hf1 hst
  obtain ⟨ins, len, hd, hle, hin⟩ := jm_step_inv hst
  obtain ⟨pc1, lv1, st1, w2⟩ := f1
  simp only at hd hin hf1
  subst hf1
  intro ls1 H1 locs1 cells1 slots1 hl1 hrep1 hloc1 hn1 hk1
  have hc1 : cells1 = mN w2 - mN w := by simp only at hn1; omega
  have hs1 : slots1 = mK w2 - mK w := by simp only at hk1; omega
  subst hc1
  subst hs1
  have hx := X0.exec
  have hb := X0.bytes
  have hret := X0.returns
  have hlk := X0.notSynchronized
  have hq : ∀ t : State, t.heap = H1 → s.WarmedH t.vm → jm_rep D cA ad B H0 w2 t t.heap := fun t ht hW => by
    rw [ht]
    exact hrep1.warm hW.alike
  rcases jm_ins_isO hin with ⟨rfl, x, rfl, hro, rfl⟩ | ⟨rfl, x, rfl, hro, rfl⟩ | ⟨rfl, x, rfl, hro, rfl⟩ | ⟨rfl, rfl, hro, rfl⟩ | ⟨-, hz⟩
  · have hd := jm_ln hd (of_decide_eq_true hle : len = 1)
    unfold jrok at hro
    split at hro
    · rename_i hri
      exact W.iret (v := Int32.ofInt x) hx hb (hret.trans hri) (fun t ht hW => ⟨rfl, hq t ht hW⟩) hloc1 hd hlk
    · rename_i hri
      exact W.zret (v := Int32.ofInt x) (ty := .boolean) hx hb (hret.trans hri) (by rcases of_decide_eq_true hro with rfl | rfl <;> rfl) (fun t ht hW => ⟨rfl, hq t ht hW⟩) hloc1 hd hlk
    · cases hro
  · have hd := jm_ln hd (of_decide_eq_true hle : len = 1)
    exact W.lret (v := Int64.ofInt x) hx hb (hret.trans hro) (fun t ht hW => ⟨rfl, hq t ht hW⟩) hloc1 hd hlk
  · have hd := jm_ln hd (of_decide_eq_true hle : len = 1)
    exact W.aret (v := va_rf (x.map ad)) hx hb (hret.trans hro) (Or.inl ⟨_, rfl⟩) (by cases x with | none => exact Or.inl rfl | some x => exact Or.inr ⟨_, rfl⟩) (fun t ht hW => ⟨rfl, hq t ht hW⟩) hloc1 hd hlk
  · have hd := jm_ln hd (of_decide_eq_true hle : len = 1)
    exact W.vret hx hb (hret.trans hro) (fun t ht hW => ⟨rfl, hq t ht hW⟩) hloc1 hd hlk
  · exact absurd hz hr
theorem jm_Pc_blind {as : List jmV} {w : jmW} : FrameBlind (jm_Pc D cA ad adV B H0 as w) := fun a U g mk q => ⟨q.1, q.2.1.warm (U := U.calling g mk a) (Vm.Alike.refl U.vm), q.2.2.warm (U := U.calling g mk a) (State.WarmedH.refl U)⟩
theorem jm_use {w : jmW} {r : Option jmV} {w1 : jmW} {H : Heap} {locs : List Loc} {cells slots : Nat} {ls : Array Slot} {pc : Nat} {st0 : List Value} {rest : List jmV} {lv : jmL} {a : Array Value} (hl : lv_has ls (jm_m i) (jeml ad lv)) (hloc : ∀ q ∈ locs, B ≤ q.base) (hn : mN w = n0 + cells) (hk : mK w = k0 + slots) (gN : mN w ≤ mN w1) (gK : mK w ≤ mK w1)
    (hr : va_Run p l e R s m args below meth c H locs cells slots (mN w1 - mN w) (mK w1 - mK w) (F0 m pc ls st0) (rest.map (jem ad)) (jm_Qc D cA ad B H0 r w1 a) (fun q => B ≤ q)) (k : jm_C D cA ad B H0 p l e R s m args below meth c Q i n0 k0 (pc + 3, lv, r.toList ++ rest, w1)) : W p l e R s m args below meth c H locs cells slots Q (F0 m pc ls st0) := by
  intro T hT X
  obtain ⟨v, st₀, t, T1, L, h0, X1, hL, e1, e2, ⟨hv, hrep⟩, st⟩ := hr T hT X
  have hv2 : v = r.map (jem ad) := by cases hv; rfl
  subst hv2
  have hW := X1.warmed
  have hrep2 : jm_rep D cA ad B H0 w1 s T1.heap := by
    rw [e1]
    rw [e2] at hW
    exact hrep.warm hW.alike.symm
  obtain ⟨t2, a1, b1⟩ := k ls T1.heap (locs ++ L) (cells + (mN w1 - mN w)) (slots + (mK w1 - mK w)) hl hrep2 (fun q hq => (List.mem_append.mp hq).elim (hloc q) (hL q)) (by simp only; omega) (by simp only; omega) T1 rfl X1
  refine ⟨t2, st t2 ?_, b1⟩
  have e9 : ((r.toList ++ rest).map (jem ad)) = (r.map (jem ad)).toList ++ rest.map (jem ad) := by
    cases r <;> rfl
  rw [← e9]
  exact a1
theorem jm_callstep {n j : Nat} {f g : jmF} {as : List jmV} {r : Option jmV} {w1 : jmW} (hS : jm_S D cA ad adV B H0 l n) (hs : jm_step i f = some (.inr (.inl (j, as, g)))) (hc : jm_ex n j (0, jas 0 as, [], g.2.2.2) = some (r, w1)) (hr : ¬ r = some (jvr 0)) (X : jm_X D cA ad adV B H0 p R s m args meth c i) (hgN : mN w1 ≤ n0 + R.cells) (hgK : mK w1 ≤ k0 + R.slots) (k : jm_C D cA ad B H0 p l e R s m args below meth c Q i n0 k0 (g.1, g.2.1, r.toList ++ g.2.2.1, w1)) : jm_C D cA ad B H0 p l e R s m args below meth c Q i n0 k0 f := by
  obtain ⟨ins, len, hd, hle, hin⟩ := jm_step_inv hs
  obtain ⟨hx, hb, hml, hown, hts, hlk, hini, hrt, hfr, hlo, hKK, had⟩ := id X
  have hO := jm_ins_isO hin
  have hgw : g.2.2.2 = f.2.2.2 := jm_step_grow hs
  obtain ⟨gN, gK⟩ := jm_ex_grow _ _ _ _ _ hc
  simp only at gN gK
  obtain ⟨pc, lv, st, w⟩ := f
  obtain ⟨pcg, lvg, stg, wg⟩ := g
  simp only at hd hin hO hgw hc k gN gK
  subst hgw
  intro ls H locs cells slots hl hrep hlocs hn hk
  simp only at hl hrep hn hk
  have pre : ∀ (as : List jmV) (U : State), U.heap = H → s.WarmedH U.vm → jm_Pc D cA ad adV B H0 as wg (as.map (jem ad)).toArray U := fun as U hU hW => ⟨rfl, by rw [hU]; exact hrep.warm hW.alike, hKK.warm hW⟩
  rcases hO with ⟨idx, j0, n1, z, rfl, hq, hcv⟩ | ⟨idx, j0, n1, z, rfl, hq, hcv⟩ | ⟨idx, j0, n1, z, rfl, hq, hcv⟩
  · obtain ⟨f1, f2, f3, f4⟩ := jm_mf_in hq (Or.inl rfl)
    obtain ⟨b, t, hdr, hSb, hcl⟩ := jm_callv_inv hcv
    obtain ⟨q1, q2, q3, q4, q5, q6, q7, q8⟩ := jm_call_inv hcl
    subst q1 q2 q3 q4 q5
    rw [List.length_cons] at q6
    have hk0 : jm_k j < 3 := by omega
    obtain ⟨t1, t2, t3, t4, t5, t6, t7, t8, t9, t10, t11, t12⟩ := jm_cal f1 hk0
    obtain ⟨r1, r2, r3⟩ := of_decide_eq_true q7
    have hM := jm_met (w1 := w1) hS had hc f1 hk0 q8 hr
    have hlink := hts _ (f4.resolve_right (fun z => by have := z.1; omega))
    obtain ⟨c1, c2, q9, hq9, cell, c3, c4, c5, -⟩ := hrep.2.2.1 b _ _ hSb
    obtain ⟨-, -, -, -, -, c6, -⟩ := jm_cls hq9
    have hrec : ∃ cellB : Cell, H[ad b]? = some cellB ∧ cellB.vm.isStatics = false ∧ s.vm.findClass (jm_y j).cls = some cellB.cls := by
      refine ⟨cell, c3, by rw [c5]; rfl, ?_⟩
      rw [t7, c6, c4]
      exact (hKK.1.1 _ _ hq9).2.1
    have hst : st.map (jem ad) = (((st.take n1).reverse.map (jem ad)).reverse ++ .ref (ad b) :: stg.map (jem ad)) := by
      have e1 : st = st.take n1 ++ (jvr b :: stg) := by rw [← hdr, List.take_append_drop]
      conv => lhs; rw [e1]
      rw [List.map_append, List.map_reverse, List.reverse_reverse]
      rfl
    exact jm_use hl hlocs hn hk gN gK (va_runV (As := (st.take n1).reverse.map (jem ad)) (rest := stg.map (jem ad)) ⟨hx, hb, hml, hown, hts⟩ hM ⟨⟨rfl, rfl, Nat.le_trans r1 hfr, Nat.le_trans r2 hlo, jm_goodc t1 hts, List.mem_cons_self, hts _ t1, hts _ t2, t10, jm_nof t8, hlink⟩, hts _ (t4 (by omega)), hts _ (t5 (by omega))⟩ ⟨jm_Pc_blind, hrec, fun U hU hW => pre (jvr b :: (st.take n1).reverse) U hU hW⟩ rfl (by rw [List.length_map]; omega) (by exact hl.1) hst (lv_room (jm_rest ad r3)) (jm_ln hd (of_decide_eq_true hle)) ⟨by omega, by omega⟩) k
  · obtain ⟨f1, f2, f3, f4⟩ := jm_mf_in hq (Or.inr (Or.inr rfl))
    obtain ⟨b, t, hdr, hSb, hcl⟩ := jm_callv_inv hcv
    obtain ⟨q1, q2, q3, q4, q5, q6, q7, q8⟩ := jm_call_inv hcl
    subst q1 q2 q3 q4 q5
    rw [List.length_cons] at q6
    have hk0 : jm_k j < 3 := by omega
    obtain ⟨t1, t2, t3, t4, t5, t6, t7, t8, t9, t10, t11, t12⟩ := jm_cal f1 hk0
    obtain ⟨r1, r2, r3⟩ := of_decide_eq_true q7
    have hM := jm_met (w1 := w1) hS had hc f1 hk0 q8 hr
    have hrn : jm_r j = none := t12 (by omega)
    rw [hrn] at hM t1
    have hst : st.map (jem ad) = (((st.take n1).reverse.map (jem ad)).reverse ++ .ref (ad b) :: stg.map (jem ad)) := by
      have e1 : st = st.take n1 ++ (jvr b :: stg) := by rw [← hdr, List.take_append_drop]
      conv => lhs; rw [e1]
      rw [List.map_append, List.map_reverse, List.reverse_reverse]
      rfl
    rcases f4 with f4 | ⟨-, host, f4⟩
    · exact jm_use hl hlocs hn hk gN gK (va_runI (b := ad b) (As := (st.take n1).reverse.map (jem ad)) (rest := stg.map (jem ad)) ⟨hx, hb, hml, hown, hts⟩ hM ⟨⟨rfl, rfl, Nat.le_trans r1 hfr, Nat.le_trans r2 hlo, jm_goodc t1 hts, List.mem_cons_self, hts _ t1, hts _ t2, t10, jm_nof t8, hts _ f4⟩, t6 (by omega), hts _ (t4 (by omega))⟩ ⟨jm_Pc_blind, fun U hU hW => pre (jvr b :: (st.take n1).reverse) U hU hW⟩ rfl (by rw [List.length_map]; omega) (by exact hl.1) hst (lv_room (jm_rest ad r3)) (jm_ln hd (of_decide_eq_true hle)) ⟨by omega, by omega⟩) k
    · exact jm_use hl hlocs hn hk gN gK (va_runIN (b := ad b) (As := (st.take n1).reverse.map (jem ad)) (rest := stg.map (jem ad)) ⟨hx, hb, hml, hown, hts⟩ hM ⟨⟨⟨rfl, rfl, Nat.le_trans r1 hfr, Nat.le_trans r2 hlo, jm_goodc t1 hts, List.mem_cons_self⟩, hts _ t1, hts _ t2, t10, jm_nof t8, hts _ f4⟩, t6 (by omega), hts _ (t4 (by omega))⟩ ⟨jm_Pc_blind, fun U hU hW => pre (jvr b :: (st.take n1).reverse) U hU hW⟩ rfl (by rw [List.length_map]; omega) (by exact hl.1) hst (lv_room (jm_rest ad r3)) (jm_ln hd (of_decide_eq_true hle)) ⟨by omega, by omega⟩) k
  · obtain ⟨f1, f2, f3, f4⟩ := jm_mf_in hq (Or.inr (Or.inl rfl))
    obtain ⟨q1, q2, q3, q4, q5, q6, q7, q8⟩ := jm_call_inv hcv
    subst q1 q2 q3 q4
    have hk0 : jm_k j < 3 := by omega
    obtain ⟨t1, t2, t3, t4, t5, t6, t7, t8, t9, t10, t11, t12⟩ := jm_cal f1 hk0
    obtain ⟨r1, r2, r3⟩ := of_decide_eq_true q7
    have hM := jm_met (w1 := w1) hS had hc f1 hk0 q8 hr
    have hlink := hts _ (f4.resolve_right (fun z => by have := z.1; omega))
    have hst : st.map (jem ad) = (((st.take n1).reverse.map (jem ad)).reverse ++ stg.map (jem ad)) := by
      have e1 : st = st.take n1 ++ stg := by rw [q5, List.take_append_drop]
      conv => lhs; rw [e1]
      rw [List.map_append, List.map_reverse, List.reverse_reverse]
    exact jm_use hl hlocs hn hk gN gK (va_runS (As := (st.take n1).reverse.map (jem ad)) (rest := stg.map (jem ad)) ⟨hx, hb, hml, hown, hts⟩ hM ⟨⟨rfl, rfl, Nat.le_trans r1 hfr, Nat.le_trans r2 hlo, jm_goodc t1 hts, List.mem_cons_self, hts _ t1, hts _ t2, t10, jm_nof t8, hlink⟩, hts _ (t3 (by omega))⟩ ⟨jm_Pc_blind, fun U hU hW => pre (st.take n1).reverse U hU hW⟩ rfl (by rw [List.length_map]; omega) (by exact hl.1) hst (lv_room (jm_rest ad r3)) (jm_ln hd (of_decide_eq_true hle)) ⟨by omega, by omega⟩) k
theorem jm_sound (had : ∀ j, ad (64 + j) = B + j) : ∀ n, jm_S D cA ad adV B H0 l n := by
  intro n
  induction n with
  | zero =>
    intro i f r w1 h
    cases h
  | succ n ih =>
    intro i f r w1 h p e R s m args below meth c Q n0 k0 X hN hK hend
    rw [jm_ex] at h
    split at h
    · rename_i g hq
      have hC := ih i g r w1 h p e R s m args below meth c Q n0 k0 X hN hK hend
      obtain ⟨gN, gK⟩ := jm_ex_grow _ _ _ _ _ h
      unfold jm_nx at hq
      split at hq
      · rename_i g2 hs
        cases hq
        exact jm_one hs X (by omega) (by omega) hC
      · rename_i j as g2 hs
        split at hq
        · rename_i r3 w3 hc
          split at hq
          · cases hq
          · rename_i hr3
            cases hq
            exact jm_callstep ih hs hc hr3 X (by simp only at gN; omega) (by simp only at gK; omega) hC
        · cases hq
      · cases hq
      · cases hq
    · rename_i r2 hq
      cases h
      unfold jm_nx at hq
      split at hq
      · cases hq
      · split at hq
        · split at hq <;> cases hq
        · cases hq
      · rename_i r4 hs
        cases hq
        exact hend f rfl hs
      · cases hq
    · cases h
end MAIN
