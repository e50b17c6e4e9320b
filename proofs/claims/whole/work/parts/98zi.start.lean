/-! The law's start in the machine. -/
def zF : List Cond := flatC (Jvm.Cond.and given_1 narrow_1)
abbrev zSt : Term := .static RX0 "TURNS" "[I"
def zTu : List Int32 := [0, 1, 3, 2, 1, 0, 3, 2, 3, 0, 1, 2]
def zTp : List (String × Nat × Nat) := [(RX3, 119, 36), (RX3, 154, 95), (RX3, 165, 103), (RX3, 167, 111), (RX3, 169, 118), (RX3, 175, 135), (RX3, 177, 144), (RX3, 197, 158), (RX3, 209, 167), (RX3, 205, 192), (RX3, 217, 226), (RX3, 226, 232), (RX3, 237, 240), (RX3, 239, 266), (RX3, 241, 274), (RX3, 232, 282), (RX9, 164, 323), (RX9, 253, 357), (RX9, 255, 366), (RX9, 259, 387), (RX9, 261, 397), (RX9, 166, 404), (RX9, 168, 411), (RX9, 170, 429), (RX9, 172, 437), (RX9, 174, 446), (RX9, 292, 455), (RX9, 294, 464), (RX9, 296, 473), (RX9, 298, 481), (RX9, 300, 488), (RX9, 184, 496), (RX9, 186, 505), (RX9, 188, 513), (RX9, 190, 522), (RX9, 176, 530), (RX9, 178, 539), (RX9, 180, 549), (RX9, 182, 558), (RX9, 192, 583), (RX9, 194, 592), (RX9, 196, 600), (RX9, 198, 609)]
abbrev zTm (k : Nat) : Term := .string (zTp.getD k ("", 0, 0)).1 (zTp.getD k ("", 0, 0)).2.1
abbrev zTv (k : Nat) : Term := .field (zTm k) "java/lang/String" "value" "[B"
def zW (k : Nat) : List Cond := [.exactly (zTm k) "java/lang/String", .eq (.field (zTm k) "java/lang/String" "coder" "B") (.int 0), .arrayOf (zTv k) .byte, .eq (.length (zTv k)) (.int (Int32.ofNat (jsLen.getD k 0)))] ++ (List.range (jsLen.getD k 0)).map (fun j => Cond.eq (.elem (zTv k) (.int (Int32.ofNat j))) (.int ((jsByt.getD k []).getD j 0)))
set_option maxRecDepth 100000 in
theorem zw_ok : (List.range 43).all (fun k => decide ((zF.drop (zTp.getD k ("", 0, 0)).2.2).take (4 + jsLen.getD k 0) = zW k)) = true := by decide +kernel
theorem zw_in {k : Nat} (hk : k < 43) : ∀ w ∈ zW k, w ∈ zF := by
  have h := of_decide_eq_true (List.all_eq_true.mp zw_ok k (List.mem_range.mpr hk))
  intro w hw
  rw [← h] at hw
  exact List.mem_of_mem_drop (List.mem_of_mem_take hw)
set_option maxRecDepth 100000 in
theorem zt_ok : (zF.drop 12).take 12 = (List.range 12).map (fun j => Cond.eq (.elem zSt (.int (Int32.ofNat j))) (.int (zTu.getD j 0))) := by decide +kernel
theorem zt_in {j : Nat} (hj : j < 12) : Cond.eq (.elem zSt (.int (Int32.ofNat j))) (.int (zTu.getD j 0)) ∈ zF := by
  have h : Cond.eq (.elem zSt (.int (Int32.ofNat j))) (.int (zTu.getD j 0)) ∈ (zF.drop 12).take 12 := by
    rw [zt_ok]
    exact List.mem_map.mpr ⟨j, List.mem_range.mpr hj, rfl⟩
  exact List.mem_of_mem_drop (List.mem_of_mem_take h)
theorem zl_31 : ∀ k : Fin 43, jsLen.getD k.val 0 < 2 ^ 31 := by decide +kernel
theorem zl_len : ∀ k : Fin 43, (jsByt.getD k.val []).length = jsLen.getD k.val 0 := by decide +kernel
theorem zl_inj : ∀ i j : Fin 43, jsByt.getD i.val [] = jsByt.getD j.val [] → i = j := by decide +kernel
theorem zl_gD {M : List Int32} {n : Nat} (h : n < M.length) : M.getD n 0 = M[n] := by
  rw [List.getD_eq_getElem?_getD, List.getElem?_eq_getElem h]
  rfl
theorem zl_ap {i j : Nat} (hi : i < 43) (hj : j < 43) (hl : jsLen.getD i 0 = jsLen.getD j 0) (hb : ∀ k, k < jsLen.getD i 0 → (jsByt.getD i []).getD k 0 = (jsByt.getD j []).getD k 0) : i = j := by
  have e1 := zl_len ⟨i, hi⟩
  have e2 := zl_len ⟨j, hj⟩
  have h : jsByt.getD i [] = jsByt.getD j [] := by
    refine List.ext_getElem (e1.trans (hl.trans e2.symm)) (fun n h1 h2 => ?_)
    have h3 := hb n (by have := e1; simp only at this; omega)
    exact (zl_gD h1).symm.trans (h3.trans (zl_gD h2))
  have := zl_inj ⟨i, hi⟩ ⟨j, hj⟩ h
  exact congrArg Fin.val this
section START
variable {args : Array Value} {s : State}
theorem zi_arr {ty : FieldType} (h : (Cond.arrayClass ty).before args s = true) : ∃ cA, ArrOfT s cA ty ∧ s.vm.findClass ("[" ++ ty.toString) = some cA := by
  obtain ⟨c, k, comp, h1, h2, h3⟩ := Cond.arrayClass_spec h
  exact ⟨c, fun n z => ⟨fun k h => (by cases h), k, h2, comp, h3⟩, h1⟩
theorem zi_arrO {C : String} (h : (Cond.arrayOver (.object C)).before args s = true) : ∃ cA, ArrOfT s cA (.object C) ∧ va_RA s cA (.object C) := by
  obtain ⟨comp, c, k, h1, h2, h3, h4, h5⟩ := Cond.arrayOver_spec h
  exact ⟨c, fun n z => ⟨fun k h => (by cases h), k, h3, comp, h4⟩, ⟨k, comp, h3, h4, h1, h5⟩⟩
/-- the constants' places; two of one place would be one text -/
theorem zi_S {N : Nat} {tm : Nat → Term} {len : List Nat} {byt : List (List Int32)} {A : Nat → Prop} (hN : ∀ i : Nat, i < N → len.getD i 0 < 2 ^ 31) (hex : ∀ i : Nat, i < N → (Cond.exactly (tm i) "java/lang/String").before args s = true) (hco : ∀ i : Nat, i < N → (Cond.eq (.field (tm i) "java/lang/String" "coder" "B") (.int 0)).before args s = true)
    (har : ∀ i : Nat, i < N → (Cond.arrayOf (.field (tm i) "java/lang/String" "value" "[B") .byte).before args s = true) (hle : ∀ i : Nat, i < N → (Cond.eq (.length (.field (tm i) "java/lang/String" "value" "[B")) (.int (Int32.ofNat (len.getD i 0)))).before args s = true)
    (hel : ∀ i : Nat, i < N → ∀ j : Nat, j < len.getD i 0 → (Cond.eq (.elem (.field (tm i) "java/lang/String" "value" "[B") (.int (Int32.ofNat j))) (.int ((byt.getD i []).getD j 0))).before args s = true)
    (hd : ∀ i j : Nat, i < N → j < N → len.getD i 0 = len.getD j 0 → (∀ k, k < len.getD i 0 → (byt.getD i []).getD k 0 = (byt.getD j []).getD k 0) → i = j) (hA : ∀ a : Nat, a < s.heap.size → ¬ A a) :
    ∃ adK adV : Nat → Nat, vk_S N len byt adK adV A s s.heap ∧ ∀ i : Nat, i < N → (tm i).eval args s none [] s = some (.ref (adK i)) := by
  have h0 : ∀ i : Nat, ∃ q : Nat × Nat, i < N → (tm i).eval args s none [] s = some (.ref q.1) ∧ va_O "java/lang/String" q.1 A s s.heap ∧ va_OF "java/lang/String" "coder" "B" (.int 0) q.1 A s s.heap ∧ va_OF "java/lang/String" "value" "[B" (.ref q.2) q.1 A s s.heap ∧ va_T .byte q.2 (len.getD i 0) (fun j => .int ((byt.getD i []).getD j 0)) A s s.heap := by
    intro i
    by_cases hi : i < N
    · obtain ⟨a, c, cA, kA, q1, q2, q3, q4, q5, q6, -⟩ := Cond.exactly_spec (args := args) (first := s) (o := none) (s := s) (idx := []) (t := tm i) (cls := "java/lang/String") (hex i hi)
      obtain ⟨t, ht, hT⟩ := va_Tof (f := fun j => .int ((byt.getD i []).getD j 0)) (A := A) (hN i hi) (har i hi) (va_eqt (hle i hi)) (fun j hj => va_eqt (hel i hi j hj)) hA
      exact ⟨(a, t), fun _ => ⟨q1, ⟨cA, q3, q5, by rw [q6]; exact q2, hA a (Array.getElem?_eq_some_iff.mp q3).1⟩, vk_OFof q1 (va_eqt (hco i hi)) hA, vk_OFof q1 ht hA, hT⟩⟩
    · exact ⟨(0, 0), fun h => absurd h hi⟩
  obtain ⟨ad, had⟩ := Classical.axiomOfChoice h0
  refine ⟨fun i => (ad i).1, fun i => (ad i).2, ⟨fun i hi => (had i hi).2, fun i j hi hj e => ?_⟩, fun i hi => (had i hi).1⟩
  obtain ⟨-, -, -, ⟨cf, kf, fi, f, cell, a1, a2, a3, a4, a5, a6⟩, cA, b1, b2, b3, b4, b5, b6, b7⟩ := had i hi
  obtain ⟨-, -, -, ⟨cf', kf', fi', f', cell', a1', a2', a3', a4', a5', a6'⟩, cA', b1', b2', b3', b4', b5', b6', b7'⟩ := had j hj
  have e : (ad i).1 = (ad j).1 := e
  cases Option.some.inj (a1.symm.trans a1')
  rw [e] at a3
  cases Option.some.inj (a3.symm.trans a3')
  have ev : (ad i).2 = (ad j).2 := by
    exact Value.ref.inj (Option.some.inj (a5.symm.trans a5'))
  rw [ev] at b1
  cases Option.some.inj (b1.symm.trans b1')
  have el : len.getD i 0 = len.getD j 0 := by
    have z := congrArg Int32.toInt (b5.symm.trans b5')
    have n1 := hN i hi
    have n2 := hN j hj
    rw [Int32.toInt_ofNat_of_lt (by omega), Int32.toInt_ofNat_of_lt (by omega)] at z
    omega
  refine hd i j hi hj el (fun k hk => ?_)
  have z := Option.some.inj ((b6 k hk).symm.trans (b6' k (by omega)))
  exact Value.int.inj z
theorem zi_K (hts : ∀ w ∈ jm_all, w.before args s = true) (ho : (Cond.arrayOver (.object RX4)).before args s = true) : ∃ (D : va_G) (cA : Nat → ClassId), va_K D vwCl (jm_tys cA) s ∧ va_AO RX4 s := by
  have hk : ∀ c : Nat, ∃ z : ClassId × (Nat → Nat), ∀ q, vwCl[c]? = some q → u_Kn s q.1 q.2.1 q.2.2 z.1 z.2 := by
    intro c
    match c with

    | 0 =>
      obtain ⟨a, b, h⟩ := u_known hts jm_lys_0 (hts _ jw_in0)
      exact ⟨(a, b), fun q hq => by
        have e : some (RX0, TX0, 15) = some q := hq
        cases e
        exact h⟩
    | 1 =>
      obtain ⟨a, b, h⟩ := u_known hts jm_lys_1 (hts _ jw_in1)
      exact ⟨(a, b), fun q hq => by
        have e : some (RX1, TX1, 18) = some q := hq
        cases e
        exact h⟩
    | 2 =>
      obtain ⟨a, b, h⟩ := u_known hts jm_lys_2 (hts _ jw_in2)
      exact ⟨(a, b), fun q hq => by
        have e : some (RX2, TX2, 2) = some q := hq
        cases e
        exact h⟩
    | 3 =>
      obtain ⟨a, b, h⟩ := u_known hts jm_lys_3 (hts _ jw_in3)
      exact ⟨(a, b), fun q hq => by
        have e : some (RX3, TX3, 12) = some q := hq
        cases e
        exact h⟩
    | 4 =>
      obtain ⟨a, b, h⟩ := u_known hts jm_lys_4 (hts _ jw_in4)
      exact ⟨(a, b), fun q hq => by
        have e : some (RX4, TX4, 11) = some q := hq
        cases e
        exact h⟩
    | 5 =>
      obtain ⟨a, b, h⟩ := u_known hts jm_lys_5 (hts _ jw_in5)
      exact ⟨(a, b), fun q hq => by
        have e : some (RX5, TX5, 4) = some q := hq
        cases e
        exact h⟩
    | 6 =>
      obtain ⟨a, b, h⟩ := u_known hts jm_lys_6 (hts _ jw_in6)
      exact ⟨(a, b), fun q hq => by
        have e : some (RX6, TX6, 3) = some q := hq
        cases e
        exact h⟩
    | 7 =>
      obtain ⟨a, b, h⟩ := u_known hts jm_lys_7 (hts _ jw_in7)
      exact ⟨(a, b), fun q hq => by
        have e : some (RX7, TX7, 15) = some q := hq
        cases e
        exact h⟩
    | 8 =>
      obtain ⟨a, b, h⟩ := u_known hts jm_lys_8 (hts _ jw_in8)
      exact ⟨(a, b), fun q hq => by
        have e : some (RX8, TX8, 33) = some q := hq
        cases e
        exact h⟩
    | 9 =>
      obtain ⟨a, b, h⟩ := u_known hts jm_lys_9 (hts _ jw_in9)
      exact ⟨(a, b), fun q hq => by
        have e : some (RX9, TX9, 40) = some q := hq
        cases e
        exact h⟩
    | k + 10 => exact ⟨(0, fun _ => 0), fun q hq => by
        rw [show vwCl[k + 10]? = none from List.getElem?_eq_none (by show 10 ≤ k + 10; omega)] at hq
        cases hq⟩
  obtain ⟨z, hz⟩ := Classical.axiomOfChoice hk
  obtain ⟨c0, i0, n0⟩ := zi_arr (hts _ jw_arrI)
  obtain ⟨c1, i1, n1⟩ := zi_arr (hts _ jw_arrB)
  obtain ⟨c2, i2, n2⟩ := zi_arr (hts _ jw_arrL)
  obtain ⟨c3, i3, n3⟩ := zi_arrO ho
  refine ⟨(fun c => (z c).1, fun c => (z c).2), fun k => if k = 0 then c0 else if k = 1 then c1 else if k = 2 then c2 else c3, ⟨fun c q hq => hz c q hq, fun k q hq => ?_⟩, va_AO.of ho⟩
  match k with
  | 0 =>
    have e : some (c0, FieldType.int) = some q := hq
    cases e
    exact ⟨i0, n0⟩
  | 1 =>
    have e : some (c1, FieldType.byte) = some q := hq
    cases e
    exact ⟨i1, n1⟩
  | 2 =>
    have e : some (c2, FieldType.long) = some q := hq
    cases e
    exact ⟨i2, n2⟩
  | 3 =>
    have e : some (c3, FieldType.object RX4) = some q := hq
    cases e
    exact ⟨i3, n3⟩
  | k + 4 =>
    have e : (none : Option (ClassId × FieldType)) = some q := hq
    cases e
/-- where all lies at the start -/
def zAd (b t B : Nat) (adK : Nat → Nat) : Nat → Nat := fun j => if j = 0 then b else if j = 1 then t else if j < 64 then adK (j - 2) else B + (j - 64)
theorem zAd_n {b t B : Nat} {adK : Nat → Nat} (j : Nat) : zAd b t B adK (64 + j) = B + j := by
  unfold zAd
  rw [if_neg (by omega), if_neg (by omega), if_neg (by omega), show 64 + j - 64 = j by omega]
theorem zAd_k {b t B : Nat} {adK : Nat → Nat} {k : Nat} (hk : k < 43) : zAd b t B adK (2 + k) = adK k := by
  unfold zAd
  rw [if_neg (by omega), if_neg (by omega), if_pos (by omega), show 2 + k - 2 = k by omega]
def zRf : List (String × Nat × Nat) := [(RX3, 119, 2), (RX3, 154, 3), (RX3, 165, 4), (RX3, 167, 5), (RX3, 169, 6), (RX3, 175, 7), (RX3, 177, 8), (RX3, 197, 9), (RX3, 209, 10), (RX3, 205, 11), (RX3, 217, 12), (RX3, 226, 13), (RX3, 237, 14), (RX3, 239, 15), (RX3, 241, 16), (RX3, 232, 17), (RX9, 164, 18), (RX9, 245, 3), (RX9, 250, 4), (RX9, 251, 5), (RX9, 253, 19), (RX9, 255, 20), (RX9, 257, 7), (RX9, 259, 21), (RX9, 261, 22), (RX9, 166, 23), (RX9, 168, 24), (RX9, 283, 9), (RX9, 170, 25), (RX9, 172, 26), (RX9, 174, 27), (RX9, 292, 28), (RX9, 294, 29), (RX9, 296, 30), (RX9, 298, 31), (RX9, 300, 32), (RX9, 184, 33), (RX9, 186, 34), (RX9, 188, 35), (RX9, 190, 36), (RX9, 176, 37), (RX9, 178, 38), (RX9, 180, 39), (RX9, 182, 40), (RX9, 322, 12), (RX9, 324, 13), (RX9, 192, 41), (RX9, 194, 42), (RX9, 196, 43), (RX9, 198, 44), (RX9, 329, 15), (RX9, 331, 16), (RX9, 333, 17)]
set_option maxRecDepth 100000 in
theorem zr_ok : (jmK_3 ++ jmK_9).all (fun q => q.2.1.1 != 7 || decide ((jm_own q.1.1, q.1.2, q.2.1.2.1) ∈ zRf)) = true := by decide +kernel
theorem zr_st {q : jmQ} (hq : q ∈ jmK_3 ++ jmK_9) : jm_lw q ∈ lw_tbl := by
  have h : jm_qok q = true := by
    rcases List.mem_append.mp hq with h | h
    · exact List.all_eq_true.mp jm_q_3 q h
    · exact List.all_eq_true.mp jm_q_9 q h
  exact jm_tb_in _ _ (List.mem_of_getElem? (of_decide_eq_true h))

set_option maxHeartbeats 4000000 in
theorem zr_ev {b t B : Nat} {adK : Nat → Nat} (hF : ∀ w ∈ zF, w.before args s = true) (hE : ∀ i : Nat, i < 43 → (zTm i).eval args s none [] s = some (.ref (adK i))) : ∀ z ∈ zRf, (Term.string z.1 z.2.1).eval args s none [] s = some (.ref (zAd b t B adK z.2.2)) := by
  have key : ∀ n, n < 43 → (zTm n).eval args s none [] s = some (.ref (zAd b t B adK (2 + n))) := fun n hn => by
    rw [zAd_k hn]
    exact hE n hn
  unfold zRf
  refine List.forall_mem_cons.mpr ⟨?_, List.forall_mem_cons.mpr ⟨?_, List.forall_mem_cons.mpr ⟨?_, List.forall_mem_cons.mpr ⟨?_, List.forall_mem_cons.mpr ⟨?_, List.forall_mem_cons.mpr ⟨?_, List.forall_mem_cons.mpr ⟨?_, List.forall_mem_cons.mpr ⟨?_, List.forall_mem_cons.mpr ⟨?_, List.forall_mem_cons.mpr ⟨?_, List.forall_mem_cons.mpr ⟨?_, List.forall_mem_cons.mpr ⟨?_, List.forall_mem_cons.mpr ⟨?_, List.forall_mem_cons.mpr ⟨?_, List.forall_mem_cons.mpr ⟨?_, List.forall_mem_cons.mpr ⟨?_, List.forall_mem_cons.mpr ⟨?_, List.forall_mem_cons.mpr ⟨?_, List.forall_mem_cons.mpr ⟨?_, List.forall_mem_cons.mpr ⟨?_, List.forall_mem_cons.mpr ⟨?_, List.forall_mem_cons.mpr ⟨?_, List.forall_mem_cons.mpr ⟨?_, List.forall_mem_cons.mpr ⟨?_, List.forall_mem_cons.mpr ⟨?_, List.forall_mem_cons.mpr ⟨?_, List.forall_mem_cons.mpr ⟨?_, List.forall_mem_cons.mpr ⟨?_, List.forall_mem_cons.mpr ⟨?_, List.forall_mem_cons.mpr ⟨?_, List.forall_mem_cons.mpr ⟨?_, List.forall_mem_cons.mpr ⟨?_, List.forall_mem_cons.mpr ⟨?_, List.forall_mem_cons.mpr ⟨?_, List.forall_mem_cons.mpr ⟨?_, List.forall_mem_cons.mpr ⟨?_, List.forall_mem_cons.mpr ⟨?_, List.forall_mem_cons.mpr ⟨?_, List.forall_mem_cons.mpr ⟨?_, List.forall_mem_cons.mpr ⟨?_, List.forall_mem_cons.mpr ⟨?_, List.forall_mem_cons.mpr ⟨?_, List.forall_mem_cons.mpr ⟨?_, List.forall_mem_cons.mpr ⟨?_, List.forall_mem_cons.mpr ⟨?_, List.forall_mem_cons.mpr ⟨?_, List.forall_mem_cons.mpr ⟨?_, List.forall_mem_cons.mpr ⟨?_, List.forall_mem_cons.mpr ⟨?_, List.forall_mem_cons.mpr ⟨?_, List.forall_mem_cons.mpr ⟨?_, List.forall_mem_cons.mpr ⟨?_, List.forall_mem_cons.mpr ⟨?_, fun _ h => absurd h List.not_mem_nil⟩⟩⟩⟩⟩⟩⟩⟩⟩⟩⟩⟩⟩⟩⟩⟩⟩⟩⟩⟩⟩⟩⟩⟩⟩⟩⟩⟩⟩⟩⟩⟩⟩⟩⟩⟩⟩⟩⟩⟩⟩⟩⟩⟩⟩⟩⟩⟩⟩⟩⟩⟩⟩
  · exact key 0 (by decide)
  · exact key 1 (by decide)
  · exact key 2 (by decide)
  · exact key 3 (by decide)
  · exact key 4 (by decide)
  · exact key 5 (by decide)
  · exact key 6 (by decide)
  · exact key 7 (by decide)
  · exact key 8 (by decide)
  · exact key 9 (by decide)
  · exact key 10 (by decide)
  · exact key 11 (by decide)
  · exact key 12 (by decide)
  · exact key 13 (by decide)
  · exact key 14 (by decide)
  · exact key 15 (by decide)
  · exact key 16 (by decide)
  · exact va_eqR (hF _ (List.mem_of_getElem? (i := 339) (by decide +kernel))) (key 1 (by decide))
  · exact va_eqR (hF _ (List.mem_of_getElem? (i := 348) (by decide +kernel))) (key 2 (by decide))
  · exact va_eqR (hF _ (List.mem_of_getElem? (i := 356) (by decide +kernel))) (key 3 (by decide))
  · exact key 17 (by decide)
  · exact key 18 (by decide)
  · exact va_eqR (hF _ (List.mem_of_getElem? (i := 386) (by decide +kernel))) (key 5 (by decide))
  · exact key 19 (by decide)
  · exact key 20 (by decide)
  · exact key 21 (by decide)
  · exact key 22 (by decide)
  · exact va_eqR (hF _ (List.mem_of_getElem? (i := 428) (by decide +kernel))) (key 7 (by decide))
  · exact key 23 (by decide)
  · exact key 24 (by decide)
  · exact key 25 (by decide)
  · exact key 26 (by decide)
  · exact key 27 (by decide)
  · exact key 28 (by decide)
  · exact key 29 (by decide)
  · exact key 30 (by decide)
  · exact key 31 (by decide)
  · exact key 32 (by decide)
  · exact key 33 (by decide)
  · exact key 34 (by decide)
  · exact key 35 (by decide)
  · exact key 36 (by decide)
  · exact key 37 (by decide)
  · exact key 38 (by decide)
  · exact va_eqR (hF _ (List.mem_of_getElem? (i := 573) (by decide +kernel))) (key 10 (by decide))
  · exact va_eqR (hF _ (List.mem_of_getElem? (i := 582) (by decide +kernel))) (key 11 (by decide))
  · exact key 39 (by decide)
  · exact key 40 (by decide)
  · exact key 41 (by decide)
  · exact key 42 (by decide)
  · exact va_eqR (hF _ (List.mem_of_getElem? (i := 626) (by decide +kernel))) (key 13 (by decide))
  · exact va_eqR (hF _ (List.mem_of_getElem? (i := 635) (by decide +kernel))) (key 14 (by decide))
  · exact va_eqR (hF _ (List.mem_of_getElem? (i := 645) (by decide +kernel))) (key 15 (by decide))
/-- the first world -/
def zW0 (L : Nat) (xs : Nat → Int) : jmW := (fun a => if a = 0 then (4, 0, L) else if a = 1 then (4, 0, 12) else if a < 45 then (3, a - 2, 0) else (0, 0, 0), fun a j => if a = 0 then xs j else (zTu.getD j 0).toInt, fun _ _ => none, fun _ _ => 0, 0, 0)
theorem zW0_T {L : Nat} {xs : Nat → Int} : TU (zW0 L xs) := ⟨rfl, by show (zTu.getD 0 0).toInt = 0; decide, by show (zTu.getD 1 0).toInt = 1; decide, by show (zTu.getD 2 0).toInt = 3; decide, by show (zTu.getD 3 0).toInt = 2; decide, by show (zTu.getD 4 0).toInt = 1; decide, by show (zTu.getD 5 0).toInt = 0; decide, by show (zTu.getD 6 0).toInt = 3; decide, by show (zTu.getD 7 0).toInt = 2; decide, by show (zTu.getD 8 0).toInt = 3; decide, by show (zTu.getD 9 0).toInt = 0; decide, by show (zTu.getD 10 0).toInt = 1; decide, by show (zTu.getD 11 0).toInt = 2; decide⟩
theorem zW0_X {L : Nat} {xs : Nat → Int} : SX (zW0 L xs) := by
  intro k hk
  have e : mS (zW0 L xs) (2 + k) = (3, k, 0) := by
    show (if 2 + k = 0 then ((4, 0, L) : Nat × Nat × Nat) else if 2 + k = 1 then (4, 0, 12) else if 2 + k < 45 then (3, 2 + k - 2, 0) else (0, 0, 0)) = _
    rw [if_neg (by omega), if_neg (by omega), if_pos (by omega), show 2 + k - 2 = k by omega]
  rw [e]
  exact ⟨rfl, rfl⟩
theorem zi_rep {D : va_G} {cA : Nat → ClassId} {b t L : Nat} {adK : Nat → Nat} {xs : Nat → Int32} (hL : L ≤ 3072) (hX : va_X b L xs s s.heap) (hT : va_T .int t 12 (fun j => .int (zTu.getD j 0)) (fun q => s.heap.size ≤ q) s s.heap) : jm_rep D cA (zAd b t s.heap.size adK) s.heap.size s.heap (zW0 L (fun j => (xs j).toInt)) s s.heap := by
  obtain ⟨scr, x1, x2, x3, x4, x5⟩ := hX
  obtain ⟨cT, t1, t2, t3, t4, t5, t6, t7⟩ := hT
  have hs : ∀ a, mS (zW0 L (fun j => (xs j).toInt)) a = (if a = 0 then ((4, 0, L) : Nat × Nat × Nat) else if a = 1 then (4, 0, 12) else if a < 45 then (3, a - 2, 0) else (0, 0, 0)) := fun a => rfl
  refine ⟨rfl, fun q _ => rfl, fun a ci z h => ?_, fun a tg n h => ?_, fun a tg n h => ?_, fun a k z h => ?_⟩
  · rw [hs] at h
    split at h
    · exact absurd (congrArg Prod.fst h) (by show ¬ (4 : Nat) = 1; decide)
    · split at h
      · exact absurd (congrArg Prod.fst h) (by show ¬ (4 : Nat) = 1; decide)
      · split at h
        · exact absurd (congrArg Prod.fst h) (by show ¬ (3 : Nat) = 1; decide)
        · exact absurd (congrArg Prod.fst h) (by show ¬ (0 : Nat) = 1; decide)
  · rw [hs] at h
    split at h
    · exact absurd (congrArg Prod.fst h) (by show ¬ (4 : Nat) = 2; decide)
    · split at h
      · exact absurd (congrArg Prod.fst h) (by show ¬ (4 : Nat) = 2; decide)
      · split at h
        · exact absurd (congrArg Prod.fst h) (by show ¬ (3 : Nat) = 2; decide)
        · exact absurd (congrArg Prod.fst h) (by show ¬ (0 : Nat) = 2; decide)
  · rw [hs] at h
    split at h
    · rename_i h0
      cases h
      subst h0
      refine ⟨by omega, (Array.getElem?_eq_some_iff.mp x1).1, rfl, by omega, scr, x1, x2, x3, by omega, by rw [x4] <;> rfl, fun j hj => ?_⟩
      rw [x5 j hj]
      show some (Value.int (xs j)) = some (Value.int (Int32.ofInt (xs j).toInt))
      rw [Int32.ofInt_toInt]
    · split at h
      · rename_i h0 h1
        cases h
        subst h1
        refine ⟨by omega, (Array.getElem?_eq_some_iff.mp t1).1, rfl, by omega, cT, t1, t2, t3, t4, t5, fun j hj => ?_⟩
        rw [t6 j hj]
        show some (Value.int (zTu.getD j 0)) = some (Value.int (Int32.ofInt (zTu.getD j 0).toInt))
        rw [Int32.ofInt_toInt]
      · split at h
        · exact absurd (congrArg Prod.fst h) (by show ¬ (3 : Nat) = 4; decide)
        · exact absurd (congrArg Prod.fst h) (by show ¬ (0 : Nat) = 4; decide)
  · rw [hs] at h
    split at h
    · exact absurd (congrArg Prod.fst h) (by show ¬ (4 : Nat) = 3; decide)
    · split at h
      · exact absurd (congrArg Prod.fst h) (by show ¬ (4 : Nat) = 3; decide)
      · split at h
        · cases h
          omega
        · exact absurd (congrArg Prod.fst h) (by show ¬ (0 : Nat) = 3; decide)
end START
section WHOLE
set_option maxHeartbeats 4000000 in
theorem zi_start {p : Program} {e : Env} {s : State} {m : MethodId} {below : List Frame} {meth : Method} {c : Code} {l : Launch} (hlf : l.stackTraces = false) {b L : Nat} {xs : Nat → Int32} (hL : L ≤ 3072) (hx : p.tables.exec = Jvm.exec) (hb : c.code = code) (hr : meth.sig.returnType = ret) (hml : c.maxLocals = 7) (hown : s.vm.findClass RL = some m.cls) (hts : ∀ w ∈ lw_tbl, w.before #[Value.ref b] s = true) (hX : va_X b L xs s s.heap) (hlk : meth.locks = false) (hgv : (Jvm.Cond.and given_1 narrow_1).before #[Value.ref b] s = true)
    {Z : State → Prop} (hend : ∀ (H : Heap) (ls : Array Slot), W p l e room_1 s m #[Value.ref b] below meth c H [] 601024 7293034 Z (F0 m 1597 ls [.int 1])) : W p l e room_1 s m #[Value.ref b] below meth c s.heap [] 0 0 Z (entryFrame m ([Value.ref b] : List Value).toArray 7) := by
  have hF : ∀ w ∈ zF, w.before #[Value.ref b] s = true := flat_of_before _ hgv
  have hta : ∀ w ∈ jm_all, w.before #[Value.ref b] s = true := fun w hw => hts w (List.mem_filter.mp hw).1
  have hA : ∀ a : Nat, a < s.heap.size → ¬ s.heap.size ≤ a := fun a ha h => absurd ha (Nat.not_lt.mpr h)
  obtain ⟨D, cA, hK, hAO⟩ := zi_K hta (hts _ jm_arrO)
  obtain ⟨adK, adV, hS, hE⟩ := zi_S (args := #[Value.ref b]) (s := s) (N := 43) (tm := zTm) (len := jsLen) (byt := jsByt) (A := fun q => s.heap.size ≤ q) (fun i hi => zl_31 ⟨i, hi⟩) (fun i hi => hF _ (zw_in hi _ (List.mem_append_left _ List.mem_cons_self))) (fun i hi => hF _ (zw_in hi _ (List.mem_append_left _ (List.mem_cons_of_mem _ List.mem_cons_self))))
    (fun i hi => hF _ (zw_in hi _ (List.mem_append_left _ (List.mem_cons_of_mem _ (List.mem_cons_of_mem _ List.mem_cons_self))))) (fun i hi => hF _ (zw_in hi _ (List.mem_append_left _ (List.mem_cons_of_mem _ (List.mem_cons_of_mem _ (List.mem_cons_of_mem _ List.mem_cons_self)))))) (fun i hi j hj => hF _ (zw_in hi _ (List.mem_append_right _ (List.mem_map.mpr ⟨j, List.mem_range.mpr hj, rfl⟩))))
    (fun i j hi hj hl hb => zl_ap hi hj hl hb) hA
  obtain ⟨t, ht, hT⟩ := va_Tof (args := #[Value.ref b]) (s := s) (tm := zSt) (ty := .int) (N := 12) (f := fun j => .int (zTu.getD j 0)) (A := fun q => s.heap.size ≤ q) (by decide) (hF _ (List.mem_of_getElem? (i := 10) (by decide +kernel))) (va_eqt (hF _ (List.mem_of_getElem? (i := 11) (by decide +kernel)))) (fun j hj => va_eqt (hF _ (zt_in hj))) hA
  have hKK : jm_KK D cA (zAd b t s.heap.size adK) adV s.heap.size s.heap s := by
    refine ⟨hK, hAO, fun q hq hk => ?_, ?_, va_Zof (hts _ (jm_tb_in 4 _ (List.mem_of_getElem? (i := 134) (by decide +kernel)))) (hta _ jw_iz0) ht hA, va_Zof (hts _ (jm_tb_in 3 _ (List.mem_of_getElem? (i := 14) (by decide +kernel)))) (hts _ (jm_tb_in 1 _ (List.mem_of_getElem? (i := 11) (by decide +kernel)))) (va_eqt (hF _ (List.mem_of_getElem? (i := 4) (by decide +kernel)))) hA, va_Zqof (hts _ (jm_tb_in 3 _ (List.mem_of_getElem? (i := 30) (by decide +kernel)))) (hts _ (jm_tb_in 1 _ (List.mem_of_getElem? (i := 13) (by decide +kernel)))) (hF _ (List.mem_of_getElem? (i := 5) (by decide +kernel))) hA⟩
    · have h1 := List.all_eq_true.mp zr_ok q hq
      simp only [Bool.or_eq_true, bne_iff_ne, ne_eq, decide_eq_true_eq] at h1
      have h2 := h1.resolve_left (fun z => z hk)
      have h3 := hts _ (zr_st hq)
      have h4 : jm_lw q = .stringRef (jm_own q.1.1) q.1.2 (jmTx.getD (q.2.1.2.1 - 2) "") := by
        unfold jm_lw
        rw [hk]
        rfl
      rw [h4] at h3
      exact vk_R.of h3 (zr_ev (b := b) (t := t) (B := s.heap.size) hF hE _ h2)
    · refine ⟨fun i hi => ?_, fun i j hi hj e => hS.2 i j hi hj ((zAd_k hi).symm.trans (e.trans (zAd_k hj)))⟩
      have h := hS.1 i hi
      simp only [zAd_k hi]
      exact h
  obtain ⟨sa, c9, cA9, kA9, q1, -⟩ := Cond.exactly_spec (args := #[Value.ref b]) (first := s) (o := none) (s := s) (idx := []) (t := .string RX7 307) (cls := "java/lang/String") (hF _ (List.mem_of_getElem? (i := 291) (by decide +kernel)))
  have hzE : zE s.heap.size sa s.heap s := by
    refine ⟨vx_Zqof (hts _ (jm_tb_in 6 _ (List.mem_of_getElem? (i := 15) (by decide +kernel)))) (hts _ (jm_tb_in 1 _ (List.mem_of_getElem? (i := 18) (by decide +kernel)))) (hF _ (List.mem_of_getElem? (i := 24) (by decide +kernel))) hA, vx_Zqof (hts _ (jm_tb_in 6 _ (List.mem_of_getElem? (i := 17) (by decide +kernel)))) (hts _ (jm_tb_in 1 _ (List.mem_of_getElem? (i := 18) (by decide +kernel)))) (hF _ (List.mem_of_getElem? (i := 25) (by decide +kernel))) hA, vk_R.of (hts _ (jm_tb_in 6 _ (List.mem_of_getElem? (i := 27) (by decide +kernel)))) q1, fun w hw => ?_⟩
    have h9 := zq_bt w hw
    simp only [zBad, List.mem_cons, List.not_mem_nil, or_false] at hw
    rcases hw with rfl | rfl | rfl | rfl
    · exact va_Nw.of rfl (hts _ (jm_tb_in 5 _ (List.mem_of_getElem? (i := 232) (by decide +kernel))))
    · exact va_Nw.of rfl (hts _ (jm_tb_in 5 _ (List.mem_of_getElem? (i := 234) (by decide +kernel))))
    · exact va_Nw.of rfl (hts _ (jm_tb_in 5 _ (List.mem_of_getElem? (i := 236) (by decide +kernel))))
    · exact va_Nw.of rfl (hts _ (jm_tb_in 5 _ (List.mem_of_getElem? (i := 230) (by decide +kernel))))
  have had : ∀ j, zAd b t s.heap.size adK (64 + j) = s.heap.size + j := zAd_n
  have X : jm_X D cA (zAd b t s.heap.size adK) adV s.heap.size s.heap p room_1 s m #[Value.ref b] meth c 312 := ⟨hx, hb.trans rfl, hml.trans rfl, hown, hta, hlk, fun z => absurd z (by decide +kernel), hr.trans rfl, by decide +kernel, by decide +kernel, hKK, had⟩
  have hrep : jm_rep D cA (zAd b t s.heap.size adK) s.heap.size s.heap (zW0 L (fun j => (xs j).toInt)) s s.heap := zi_rep hL hX hT
  have A : lpA (fun f => (mN f.2.2.2 ≤ 0 + room_1.cells ∧ mK f.2.2.2 ≤ 0 + room_1.slots) ∧ jm_C D cA (zAd b t s.heap.size adK) s.heap.size s.heap p l e room_1 s m #[Value.ref b] below meth c Z 312 0 0 f) := by
    refine ⟨fun f hf => ?_, fun z tl w h => ?_, fun w lv x y h64 h252 hc h => ?_, fun w lv x h64 hk h => ?_, fun lv w n1 n2 => ?_⟩
    · obtain ⟨n, hn⟩ := hf
      exact jsg_C had X (fun f h => h) n f hn
    · refine ⟨h.1, jm_nx_C had (g := (25, lvs z tl, [.inl z], w)) ?_ X h.1.1 h.1.2 h.2⟩
      unfold jm_nx
      rw [(q_step (jd_of jb_312 dL_law_23) rfl).trans (show jm_ins 312 (.iload 4) 23 (lvs z tl) [] w = some (.inl (25, lvs z tl, [.inl z], w)) from rfl)]
    · exact ⟨h.1, ze_use (mc := 0) (ms := 0) (ze_ret had h64 h252 hc) rfl rfl X (by decide) (by decide) hzE h.1.1 h.1.2 h.2⟩
    · obtain ⟨⟨h1, h2⟩, h3⟩ := h
      have e1 : mN (newC w (7, 0, 0) 6) = mN w + 1 := rfl
      have e2 : mK (newC w (7, 0, 0) 6) = mK w + 6 := rfl
      simp only at h1 h2
      exact ⟨⟨by show mN w ≤ _; omega, by show mK w ≤ _; omega⟩, ze_use (mc := 1) (ms := 6) (ze_cat had hlf h64 hk) rfl rfl X (by decide) (by decide) hzE h1 h2 h3⟩
    · refine ⟨⟨by show mN w ≤ 0 + 601024; omega, by show mK w ≤ 0 + 7293034; omega⟩, ?_⟩
      intro ls H locs cells slots hl hrep1 hloc hn hk
      simp only at hn hk
      exact W.forget (locs := []) (L := locs) (fun q hq => hloc q hq) (W.widen (by omega) (by omega) (hend H ls))
  have h0 := A.aC _ (lp_first (P := fun f => (mN f.2.2.2 ≤ 0 + room_1.cells ∧ mK f.2.2.2 ≤ 0 + room_1.slots) ∧ jm_C D cA (zAd b t s.heap.size adK) s.heap.size s.heap p l e room_1 s m #[Value.ref b] below meth c Z 312 0 0 f) (w0 := zW0 L (fun j => (xs j).toInt)) (L := L) (xs := fun j => (xs j).toInt) rfl rfl rfl rfl zW0_T zW0_X (fun w hw => lp_all A hL (fun j => ⟨Int32.le_toInt _, Int32.toInt_lt _⟩) 512 0 w [] (by omega) hw (tk_n 5)))
  have hl := lv_entry [Value.ref b] (n := 7) (Nat.le_of_ble_eq_true rfl)
  rw [lg_entry_eq]
  generalize (lg_sl [Value.ref b] ++ List.replicate (7 - (lg_sl [Value.ref b]).length) Slot.unset).toArray = ls at hl ⊢
  exact h0.2 ls s.heap [] 0 0 hl hrep (fun q hq => by cases hq) rfl rfl
end WHOLE
