/-! The class: acts. -/
/-- the cell of who starts so far behind the front -/
def gBk (H : Nat → Nat → Int) : Nat → Int
  | 0 => H 0 13
  | n + 1 => gTo H (gBk H n) (H 0 14 + 2)
/-- the row as it starts -/
def gS0 (H : Nat → Nat → Int) (k : Nat) : Int :=
  if k < 204 then (if (k : Int) < H 0 4 then gBk H (H 0 4 - 1 - k).toNat else 0)
  else if k < 220 then (if (k : Int) - 204 < H 0 4 then (k : Int) - 204 else 0)
  else if k < 236 then (if (k : Int) - 220 < H 0 4 then H 0 4 - 1 - ((k : Int) - 220) else 0)
  else if k < 252 then (if (k : Int) - 236 < H 0 4 then H 24 (k - 236) else 0)
  else if k < 268 then (if (k : Int) - 252 < H 0 4 then H 25 (k - 252) else 0)
  else if k < 284 then (if (k : Int) - 268 < H 0 4 then H 26 (k - 268) else 0)
  else if k < 288 then (if (k : Int) - 284 < H 0 3 then H 19 (k - 284) else 0)
  else if k = 288 then H 0 4 else if k = 289 then H 0 4 else if k = 290 then H 0 4 else if k = 291 then H 0 7 else if k = 292 then H 0 14 else if k = 296 then H 0 10 else 0
/-- what acts change: the row, rows kept -/
abbrev gSt : Type := (Nat → Int) × Nat × (Nat → Nat → Int) × Nat × (Nat → Nat → Int)
def gPs (s : gSt) : gSt := (s.1, gPuK 10 s.2.1, gPuQ 10 s.2.1 s.2.2.1 s.1, s.2.2.2)
def gRw (s : gSt) (r : Nat → Int) : gSt := (r, s.2)
def gSwp (r : Nat → Int) (i j : Int) : Nat → Int := gTake (gTake r r i j) r j i
noncomputable def gDn (H : Nat → Nat → Int) (S g r : Nat → Int) (n : Int) : gZ := gFr H (H 0 6) S (-1) n.toNat (gZ0 r g)
noncomputable def A37 (H : Nat → Nat → Int) (S g : Nat → Int) (s : gSt) (n : Int) : Int × Int × gSt := if 1 ≤ n ∧ n ≤ 20 then (if gOver s.1 = 0 then ((gDn H S g s.1 n).1.1 289, 0, gRw (gPs s) (gDn H S g s.1 n).1.1) else (-1, 5, s)) else (-1, 2, s)
def A38 (s : gSt) (l : Int) : Int × Int × gSt := if 0 ≤ l ∧ l ≤ 4 then (if s.1 291 = l then (0, 5, s) else (1, 0, gRw (gPs s) (up1 s.1 291 l))) else (0, 1, s)
def A39 (s : gSt) (i j : Int) : Int × Int × gSt := if (1 ≤ i ∧ i < s.1 289) ∧ (1 ≤ j ∧ j < s.1 289) ∧ i ≠ j then (1, 0, gRw (gPs s) (gSwp s.1 i j)) else (0, 1, s)
def A40 (s : gSt) (i : Int) : Int × Int × gSt := if 0 ≤ i ∧ i < s.1 289 then (if i = 0 then (0, 5, s) else (1, 0, gRw (gPs s) (gOut s.1 i))) else (0, 1, s)
def A41 (H : Nat → Nat → Int) (s : gSt) (x y : Int) : Int × Int × gSt := if (0 ≤ x ∧ x < H 0 0 ∧ 0 ≤ y ∧ y < H 0 1) ∧ H 17 (y * H 0 0 + x).toNat ≠ 2 then (if 0 ≤ s.1 296 then (if s.1 296 = y * H 0 0 + x then (0, 5, s) else (1, 0, gRw (gPs s) (up1 s.1 296 (y * H 0 0 + x)))) else (0, 6, s)) else (0, 1, s)
def A42 (s : gSt) (v : Int) : Int × Int × gSt := if 0 ≤ v ∧ v ≤ 65536 then (1, 0, gRw s (up1 s.1 295 v)) else (0, 2, s)
def A43 (s : gSt) : Int × Int × gSt := if s.2.1 = 0 then (0, 6, s) else (1, 0, (gCp (s.2.2.1 (s.2.1 - 1)) s.1, s.2.1 - 1, s.2.2))
def A44 (s : gSt) : Int × Int × gSt := if s.2.2.2.1 = 3 then (-1, 3, s) else (s.2.2.2.1, 0, (s.1, s.2.1, s.2.2.1, s.2.2.2.1 + 1, gPuQ 3 s.2.2.2.1 s.2.2.2.2 s.1))
def A45 (s : gSt) (m : Int) : Int × Int × gSt := if 0 ≤ m ∧ m < s.2.2.2.1 then (1, 0, (gCp (s.2.2.2.2 m.toNat) s.1, 0, s.2.2)) else (0, 1, s)
/-- the class with a HALL, whole -/
def cX (w : jmW) (H : Nat → Nat → Int) (s : gSt) (Bt : Int) : Prop := cO w H s.1 ∧ CR w 104 (H 0 3).toNat (gOver (gS0 H)) (gS0 H) ∧ CSh w 136 10 s.2.1 s.2.2.1 (H 0 3).toNat Bt ∧ CSh w 208 3 s.2.2.2.1 s.2.2.2.2 (H 0 3).toNat Bt
def aP : Nat → Prop := fun b => b = 64 ∨ (111 ≤ b ∧ b ≤ 237)
def qA (w u : jmW) (H : Nat → Nat → Int) (s : gSt) (Bt : Int) (tr : Int) : Prop := cX u H s Bt ∧ Fr aP w u ∧ (∀ k, k ≠ 14 → mI u 64 k = mI w 64 k) ∧ mI u 64 14 = tr
section ACTS
variable {w u : jmW} {H : Nat → Nat → Int} {r S q g : Nat → Int} {B Bt : Int} {s : gSt}
theorem qC.qA (hX : cX w H s Bt) {tr : Int} (h : qC w u H tr) : qA w u H s Bt tr := by
  obtain ⟨x1, x2, x3, x4⟩ := hX
  obtain ⟨f, q1, q2, q3, q4, q5⟩ := h
  refine ⟨⟨⟨x1.1.fr f.q q1, by rw [q2 11 (by omega)]; exact x1.2.1, x1.cr.fr f (fun b b1 b2 z => by unfold qP at z; omega), q4, q5⟩, x2.fr f (fun b b1 b2 z => by unfold qP at z; omega), x3.fr f (fun b b1 b2 z => by unfold qP at z; omega), x4.fr f (fun b b1 b2 z => by unfold qP at z; omega)⟩, f.mo (fun b hb => by unfold qP at hb; unfold aP; omega), q2, q3⟩
theorem cX.no (hX : cX w H s Bt) {tr : Int} : qA w (setI w 64 14 tr) H s Bt tr := qC.qA hX (qC.triv hX.1)
/-- another row now -/
theorem cO.row (h : cO w H r) (f : Fr (fun b => 111 ≤ b ∧ b ≤ 117) w u) {r2 : Nat → Int} (cr : CR u 111 (H 0 3).toNat (gOver r2) r2) : cO u H r2 := by
  have e := f.Iq (b := 64) (by omega)
  have e2 := f.Rq (b := 64) (by omega)
  exact ⟨h.1.fr f.q e2, by rw [e]; exact h.2.1, cr, h.fb.fr f (fun b hb => by omega), h.2.2.2.2.fr f (fun b b1 b2 => by omega)⟩
theorem cO.all (h : cO w H r) {P : Nat → Prop} (f : Fr P w u) (hP : ∀ b, (b = 1 ∨ b = 64 ∨ (84 ≤ b ∧ b ≤ 100) ∨ (111 ≤ b ∧ b ≤ 135) ∨ (231 ≤ b ∧ b ≤ 237)) → ¬ P b) : cO u H r := by
  have e := f.Iq (hP 64 (by omega))
  have e2 := f.Rq (hP 64 (by omega))
  exact ⟨h.1.fr f.q e2, by rw [e]; exact h.2.1, h.cr.fr f (fun b b1 b2 => hP b (by omega)), h.fb.fr f (fun b hb => hP b (by omega)), h.2.2.2.2.fr f (fun b b1 b2 => hP b (by omega))⟩
theorem cX.row (hX : cX w H s Bt) (f : Fr (fun b => 111 ≤ b ∧ b ≤ 117) w u) {r2 : Nat → Int} (cr : CR u 111 (H 0 3).toNat (gOver r2) r2) : cX u H (gRw s r2) Bt := by
  obtain ⟨x1, x2, x3, x4⟩ := hX
  exact ⟨x1.row f cr, x2.fr f (fun b b1 b2 => by omega), x3.fr f (fun b b1 b2 => by omega), x4.fr f (fun b b1 b2 => by omega)⟩
theorem cX.fut (hX : cX w H s Bt) (f : Fr fP w u) (hb : FB u H) : cX u H s Bt := by
  obtain ⟨x1, x2, x3, x4⟩ := hX
  exact ⟨x1.fut f hb, x2.fr f (fun b b1 b2 z => by unfold fP at z; omega), x3.fr f (fun b b1 b2 z => by unfold fP at z; omega), x4.fr f (fun b b1 b2 z => by unfold fP at z; omega)⟩
theorem cX.mo (hX : cX w H s Bt) {Bt2 : Int} (h : Bt ≤ Bt2) : cX w H s Bt2 := ⟨hX.1, hX.2.1, hX.2.2.1.mo h, hX.2.2.2.mo h⟩
theorem cX.push (hX : cX w H s Bt) (hB : Bt < 100000) : ∃ u, rn 148 (0, [(0, jvr 136), (1, jvr 111)], [], w) = some (none, u) ∧ cX u H (gPs s) (Bt + 1) ∧ Fr (fun b => 136 ≤ b ∧ b ≤ 207) w u := by
  obtain ⟨x1, x2, x3, x4⟩ := hX
  obtain ⟨u, e, c, f⟩ := shf_push x3 x1.cr (by omega) (by omega) hB (by omega)
  have f : Fr (fun b => 136 ≤ b ∧ b ≤ 207) w u := f
  exact ⟨u, e, ⟨x1.all f (fun b hb => by omega), x2.fr f (fun b b1 b2 => by omega), c, (x4.fr f (fun b b1 b2 => by omega)).mo (by omega)⟩, f⟩
/-- what the class answers, by the cells that changed -/
theorem cX.fin (hX : cX u H s Bt) (f : Fr (fun b => 111 ≤ b ∧ b ≤ 237) w u) {tr : Int} : qA w (setI u 64 14 tr) H s Bt tr := by
  have h := hX.no (tr := tr)
  refine ⟨h.1, (f.mo (fun b hb => Or.inr hb)).tr h.2.1, fun k hk => by rw [h.2.2.1 k hk, f.Iq (b := 64) (by omega)], h.2.2.2⟩
theorem r_take {a b2 T T2 : Nat} {c c2 : Int} (h : CR w a T c r) (h2 : CR w b2 T2 c2 q) (hd : a + 6 < b2 ∨ b2 + 6 < a) (h16 : r 289 ≤ 16 ∧ r 288 ≤ 204) {i j : Int} (i1 : 0 ≤ i) (i2 : i < r 289) (j1 : 0 ≤ j) (j2 : j < q 289) (k16 : q 289 ≤ 16) : ∃ u, rn 125 (0, [(0, jvr a), (1, .inl i), (2, jvr b2), (3, .inl j)], [], w) = some (none, u) ∧ CR u a T c (gTake r q i j) ∧ Fr (rP a) w u := by
  have g : ∀ {w : jmW}, CR w b2 T2 c2 q → ∀ k, 0 ≤ k → k < 5 → rn 23 (0, [(0, jvr (b2 + 3)), (1, .inl j), (2, .inl k)], [], w) = some (some (.inl (q (204 + 16 * k + j).toNat)), w) := fun h2 k k1 k2 => cr_get h2 j1 j2 k1 k2
  have n : ∀ b, b2 ≤ b → b ≤ b2 + 6 → ¬ rP a b := fun b b1 b3 => by unfold rP; omega
  have e1 := g h2 0 (by omega) (by omega)
  obtain ⟨w1, p1, c1, f1⟩ := h.putn h16 (i := i) (k := 0) (v := q (204 + j).toNat) (n := (204 + i).toNat) i1 i2 (by omega) (by omega) (by omega)
  have k1 := h2.fr f1 n
  have e2 := g k1 2 (by omega) (by omega)
  obtain ⟨w2, p2, d2, f2⟩ := c1.putn (i := i) (k := 2) (v := q (236 + j).toNat) (n := (236 + i).toNat) (by rw [up1_n (by omega), up1_n (by omega)]; exact h16) i1 (by rw [up1_n (by omega)]; exact i2) (by omega) (by omega) (by omega)
  have k2 := k1.fr f2 n
  have e3 := g k2 3 (by omega) (by omega)
  obtain ⟨w3, p3, d3, f3⟩ := d2.putn (i := i) (k := 3) (v := q (252 + j).toNat) (n := (252 + i).toNat) (by rw [up1_n (by omega), up1_n (by omega), up1_n (by omega), up1_n (by omega)]; exact h16) i1 (by rw [up1_n (by omega), up1_n (by omega)]; exact i2) (by omega) (by omega) (by omega)
  have k3 := k2.fr f3 n
  have e4 := g k3 4 (by omega) (by omega)
  obtain ⟨w4, p4, d4, f4⟩ := d3.putn (i := i) (k := 4) (v := q (268 + j).toNat) (n := (268 + i).toNat) (by rw [up1_n (by omega), up1_n (by omega), up1_n (by omega), up1_n (by omega), up1_n (by omega), up1_n (by omega)]; exact h16) i1 (by rw [up1_n (by omega), up1_n (by omega), up1_n (by omega)]; exact i2) (by omega) (by omega) (by omega)
  refine ⟨w4, ?_, d4, ((f1.tr f2).tr f3).tr f4⟩
  rw [show (204 + 16 * (0 : Int) + j).toNat = (204 + j).toNat by omega] at e1
  rw [show (204 + 16 * (2 : Int) + j).toNat = (236 + j).toNat by omega] at e2
  rw [show (204 + 16 * (3 : Int) + j).toNat = (252 + j).toNat by omega] at e3
  rw [show (204 + 16 * (4 : Int) + j).toNat = (268 + j).toNat by omega] at e4
  have s0 := h.s0
  have s1 := c1.s0
  have s2 := d2.s0
  have s3 := d3.s0
  have m0 := h.k
  have m1 := c1.k
  have m2 := d2.k
  have m3 := d3.k
  have t0 := h2.s0
  have t1 := k1.s0
  have t2 := k2.s0
  have t3 := k3.s0
  have l0 := h2.k
  have l1 := k1.k
  have l2 := k2.k
  have l3 := k3.k
  have y0 := h.s3
  have y1 := c1.s3
  have y2 := d2.s3
  have y3 := d3.s3
  have z0 := h2.s3
  have z1 := k1.s3
  have z2 := k2.s3
  have z3 := k3.s3
  simp (disch := omega) only [p125_0, p125_1n, p125_1s, p125_4, p125_5, p125_6, p125_9, p125_10, p125_11, p125_12, p125_15, p125_16, p125_17, p125_20, p125_23, p125_24, p125_27, p125_28, p125_29, p125_30, p125_33, p125_34, p125_35, p125_38, p125_41, p125_42, p125_45, p125_46, p125_47, p125_48, p125_51, p125_52, p125_53, p125_56, p125_59, p125_60, p125_63, p125_64, p125_65, p125_66, p125_69, p125_70, p125_71, p125_74, p125_77, jwd_c, jwd_0, Nat.reduceLeDiff, Nat.reduceEqDiff, Nat.reduceAdd, Nat.reduceSub, Nat.reduceMul, Int.reduceAdd, Int.reduceSub, Int.reduceMul, Int.reduceNeg, Int.reduceEq, Int.reduceLT, Int.reduceLE, jq_ldi_i, jq_ldl_l, jq_lda_a, jq_inc_i, jq_gs_t, jq_gsb_t, jq_gb_t, jq_gr_2, jq_gr_4, jq_gw_2, jq_s_t, jq_b_t, jg_c, jg_n, js_c, js_n, jrm_c, jrm_n, j2_i, j2_l, j2_a, jq_c_i, jq_c_l, jq_c_0, jq_c_n, jwd_le, jw_c0, mS_I, mS_R, mS_J, mN_I, mN_R, mN_J, mR_I, mI_R, mJ_I, mJ_R, mI_J, mR_J, ↓reduceIte, decide_true, or_true, true_or, and_self, false_or, or_false, reduceCtorEq, Bool.false_eq_true, and_false, false_and, eq_self, true_and, and_true, zero_ne, ↓br_lt_t, ↓br_lt_f, ↓br_eq_t, ↓br_eq_f, ↓br_lz_t, ↓br_lz_f, ↓br_ez_t, ↓br_ez_f, ↓br_gz_t, ↓br_gz_f, jw_id, jin_t, jix_t, ↓ite_t, ↓ite_f, s0, s1, s2, s3, m0, m1, m2, m3, t0, t1, t2, t3, l0, l1, l2, l3, y0, y1, y2, y3, z0, z1, z2, z3, e1, e2, e3, e4, p1, p2, p3, p4]
theorem cX.s64 (h : cX w H s Bt) : mS w 64 = (1, 7, 0) := h.1.s
theorem c_seed (hX : cX w H s Bt) (ri : RI H B s.1) {v : Int} (x1 : -2147483648 ≤ v) (x2 : v < 2147483648) : ∃ u, rn 158 (0, [(0, jvr 64), (1, .inl v)], [], w) = some (some (.inl (A42 s v).1), u) ∧ qA w u H (A42 s v).2.2 Bt (A42 s v).2.1 := by
  have h := hX.1
  have h16 := ri.1.1
  unfold A42
  by_cases q1 : 0 ≤ v
  · by_cases q2 : v ≤ 65536
    · rw [if_pos ⟨q1, q2⟩]
      have cr := h.cr.fld (by omega) (by omega) (k := 4) (m := 295) (x := v) (by omega)
      rw [← over_u (k := 295) (x := v) (by omega) (by omega)] at cr
      have f : Fr (fun b => 111 ≤ b ∧ b ≤ 117) w (setI w 111 4 v) := Fr.I ⟨by omega, by omega⟩
      refine ⟨_, ?_, (hX.row f cr).fin (f.mo (fun b hb => by omega))⟩
      simp (disch := omega) only [p158_0, p158_1, p158_4, p158_7, p158_8, p158_9, p158_12, p158_13, p158_14, p158_17, p158_18, p158_20, p158_23, p158_24, p158_25, p158_28, p158_29, p158_30, p158_33, p158_34, p158_37, p158_38, p158_41, p154_0, p154_1, p154_2, p154_5, p154_6, jwd_c, jwd_0, Nat.reduceLeDiff, Nat.reduceEqDiff, Nat.reduceAdd, Nat.reduceSub, Nat.reduceMul, Int.reduceAdd, Int.reduceSub, Int.reduceMul, Int.reduceNeg, Int.reduceEq, Int.reduceLT, Int.reduceLE, jq_ldi_i, jq_ldl_l, jq_lda_a, jq_inc_i, jq_gs_t, jq_gsb_t, jq_gb_t, jq_gr_2, jq_gr_4, jq_gw_2, jq_s_t, jq_b_t, jg_c, jg_n, js_c, js_n, jrm_c, jrm_n, j2_i, j2_l, j2_a, jq_c_i, jq_c_l, jq_c_0, jq_c_n, jwd_le, jw_c0, mS_I, mS_R, mS_J, mN_I, mN_R, mN_J, mR_I, mI_R, mJ_I, mJ_R, mI_J, mR_J, ↓reduceIte, decide_true, or_true, true_or, and_self, false_or, or_false, reduceCtorEq, Bool.false_eq_true, and_false, false_and, eq_self, true_and, and_true, zero_ne, ↓br_lt_t, ↓br_lt_f, ↓br_eq_t, ↓br_eq_f, ↓br_lz_t, ↓br_lz_f, ↓br_ez_t, ↓br_ez_f, ↓br_gz_t, ↓br_gz_f, jw_id, jin_t, jix_t, ↓ite_t, ↓ite_f, cO.s h, cO.r0 h, cO.r1 h, cO.r2 h, cO.r3 h, cO.r4 h, cO.r5 h, cO.r6 h, cO.r7 h, cO.r8 h, cO.r9 h, cO.r10 h, cO.o h, cO.x111 h, cO.x111p h, cO.x111k h, cO.x111t h, cO.x112 h, cO.x114 h, cO.x116 h, cO.x118 h, cO.x84 h, cO.x84r0 h, cO.x84r1 h, cO.x84r2 h, cO.x84r3 h, cO.x84r4 h, cO.x84r5 h, cO.x84r6 h, cO.x84r7 h, cO.x85 h, cO.x87 h, cO.x89 h, cO.x91 h, cO.x93 h, cO.x95 h, cO.x97 h, cO.x99 h, cO.x84f8 h, cO.x84f9 h, cO.x84f10 h, cO.x84f11 h, cO.x84f12 h, cO.x84f14 h, cO.x84f15 h, cO.x84f16 h, cO.x84f17 h]
    · rw [if_neg (fun z => q2 z.2)]
      refine ⟨_, ?_, hX.no⟩
      simp (disch := omega) only [p158_0, p158_1, p158_4, p158_7, p158_8, p158_9, p158_12, p158_13, p158_14, p158_17, p158_18, p158_20, p158_23, p158_24, p158_25, p158_28, p158_29, p158_30, p158_33, p158_34, p158_37, p158_38, p158_41, p153_0, p153_1, p153_2, p153_5, p153_6, jwd_c, jwd_0, Nat.reduceLeDiff, Nat.reduceEqDiff, Nat.reduceAdd, Nat.reduceSub, Nat.reduceMul, Int.reduceAdd, Int.reduceSub, Int.reduceMul, Int.reduceNeg, Int.reduceEq, Int.reduceLT, Int.reduceLE, jq_ldi_i, jq_ldl_l, jq_lda_a, jq_inc_i, jq_gs_t, jq_gsb_t, jq_gb_t, jq_gr_2, jq_gr_4, jq_gw_2, jq_s_t, jq_b_t, jg_c, jg_n, js_c, js_n, jrm_c, jrm_n, j2_i, j2_l, j2_a, jq_c_i, jq_c_l, jq_c_0, jq_c_n, jwd_le, jw_c0, mS_I, mS_R, mS_J, mN_I, mN_R, mN_J, mR_I, mI_R, mJ_I, mJ_R, mI_J, mR_J, ↓reduceIte, decide_true, or_true, true_or, and_self, false_or, or_false, reduceCtorEq, Bool.false_eq_true, and_false, false_and, eq_self, true_and, and_true, zero_ne, ↓br_lt_t, ↓br_lt_f, ↓br_eq_t, ↓br_eq_f, ↓br_lz_t, ↓br_lz_f, ↓br_ez_t, ↓br_ez_f, ↓br_gz_t, ↓br_gz_f, jw_id, jin_t, jix_t, ↓ite_t, ↓ite_f, cO.s h, cO.r0 h, cO.r1 h, cO.r2 h, cO.r3 h, cO.r4 h, cO.r5 h, cO.r6 h, cO.r7 h, cO.r8 h, cO.r9 h, cO.r10 h, cO.o h, cO.x111 h, cO.x111p h, cO.x111k h, cO.x111t h, cO.x112 h, cO.x114 h, cO.x116 h, cO.x118 h, cO.x84 h, cO.x84r0 h, cO.x84r1 h, cO.x84r2 h, cO.x84r3 h, cO.x84r4 h, cO.x84r5 h, cO.x84r6 h, cO.x84r7 h, cO.x85 h, cO.x87 h, cO.x89 h, cO.x91 h, cO.x93 h, cO.x95 h, cO.x97 h, cO.x99 h, cO.x84f8 h, cO.x84f9 h, cO.x84f10 h, cO.x84f11 h, cO.x84f12 h, cO.x84f14 h, cO.x84f15 h, cO.x84f16 h, cO.x84f17 h]
  · rw [if_neg (fun z => q1 z.1)]
    refine ⟨_, ?_, hX.no⟩
    simp (disch := omega) only [p158_0, p158_1, p158_4, p158_7, p158_8, p158_9, p158_12, p158_13, p158_14, p158_17, p158_18, p158_20, p158_23, p158_24, p158_25, p158_28, p158_29, p158_30, p158_33, p158_34, p158_37, p158_38, p158_41, p153_0, p153_1, p153_2, p153_5, p153_6, jwd_c, jwd_0, Nat.reduceLeDiff, Nat.reduceEqDiff, Nat.reduceAdd, Nat.reduceSub, Nat.reduceMul, Int.reduceAdd, Int.reduceSub, Int.reduceMul, Int.reduceNeg, Int.reduceEq, Int.reduceLT, Int.reduceLE, jq_ldi_i, jq_ldl_l, jq_lda_a, jq_inc_i, jq_gs_t, jq_gsb_t, jq_gb_t, jq_gr_2, jq_gr_4, jq_gw_2, jq_s_t, jq_b_t, jg_c, jg_n, js_c, js_n, jrm_c, jrm_n, j2_i, j2_l, j2_a, jq_c_i, jq_c_l, jq_c_0, jq_c_n, jwd_le, jw_c0, mS_I, mS_R, mS_J, mN_I, mN_R, mN_J, mR_I, mI_R, mJ_I, mJ_R, mI_J, mR_J, ↓reduceIte, decide_true, or_true, true_or, and_self, false_or, or_false, reduceCtorEq, Bool.false_eq_true, and_false, false_and, eq_self, true_and, and_true, zero_ne, ↓br_lt_t, ↓br_lt_f, ↓br_eq_t, ↓br_eq_f, ↓br_lz_t, ↓br_lz_f, ↓br_ez_t, ↓br_ez_f, ↓br_gz_t, ↓br_gz_f, jw_id, jin_t, jix_t, ↓ite_t, ↓ite_f, cO.s h, cO.r0 h, cO.r1 h, cO.r2 h, cO.r3 h, cO.r4 h, cO.r5 h, cO.r6 h, cO.r7 h, cO.r8 h, cO.r9 h, cO.r10 h, cO.o h, cO.x111 h, cO.x111p h, cO.x111k h, cO.x111t h, cO.x112 h, cO.x114 h, cO.x116 h, cO.x118 h, cO.x84 h, cO.x84r0 h, cO.x84r1 h, cO.x84r2 h, cO.x84r3 h, cO.x84r4 h, cO.x84r5 h, cO.x84r6 h, cO.x84r7 h, cO.x85 h, cO.x87 h, cO.x89 h, cO.x91 h, cO.x93 h, cO.x95 h, cO.x97 h, cO.x99 h, cO.x84f8 h, cO.x84f9 h, cO.x84f10 h, cO.x84f11 h, cO.x84f12 h, cO.x84f14 h, cO.x84f15 h, cO.x84f16 h, cO.x84f17 h]
theorem c_lead (hX : cX w H s Bt) (hB : Bt < 100000) (ri : RI H B s.1) {l : Int} (x1 : -2147483648 ≤ l) (x2 : l < 2147483648) : ∃ u, rn 152 (0, [(0, jvr 64), (1, .inl l)], [], w) = some (some (.inl (A38 s l).1), u) ∧ qA w u H (A38 s l).2.2 (Bt + 1) (A38 s l).2.1 := by
  have h := hX.1
  have h16 := ri.1.1
  have c5 : mI w 111 5 = s.1 291 := h.cr.2.2.2.2.2.2.2.2.2.1
  have r91 := ri.1.2.2
  unfold A38
  by_cases q1 : 0 ≤ l
  · by_cases q2 : l ≤ 4
    · rw [if_pos ⟨q1, q2⟩]
      by_cases q3 : s.1 291 = l
      · rw [if_pos q3]
        refine ⟨_, ?_, (hX.mo (by omega)).no⟩
        simp (disch := omega) only [p152_0, p152_1, p152_4, p152_7, p152_8, p152_11, p152_12, p152_13, p152_16, p152_17, p152_18, p152_21, p152_22, p152_23, p152_26, p152_29, p152_30, p152_33, p152_34, p152_35, p152_38, p152_39, p152_40, p152_43, p152_44, p152_47, p152_50, p152_51, p152_54, p152_55, p152_58, p152_59, p152_62, p153_0, p153_1, p153_2, p153_5, p153_6, jwd_c, jwd_0, Nat.reduceLeDiff, Nat.reduceEqDiff, Nat.reduceAdd, Nat.reduceSub, Nat.reduceMul, Int.reduceAdd, Int.reduceSub, Int.reduceMul, Int.reduceNeg, Int.reduceEq, Int.reduceLT, Int.reduceLE, jq_ldi_i, jq_ldl_l, jq_lda_a, jq_inc_i, jq_gs_t, jq_gsb_t, jq_gb_t, jq_gr_2, jq_gr_4, jq_gw_2, jq_s_t, jq_b_t, jg_c, jg_n, js_c, js_n, jrm_c, jrm_n, j2_i, j2_l, j2_a, jq_c_i, jq_c_l, jq_c_0, jq_c_n, jwd_le, jw_c0, mS_I, mS_R, mS_J, mN_I, mN_R, mN_J, mR_I, mI_R, mJ_I, mJ_R, mI_J, mR_J, ↓reduceIte, decide_true, or_true, true_or, and_self, false_or, or_false, reduceCtorEq, Bool.false_eq_true, and_false, false_and, eq_self, true_and, and_true, zero_ne, ↓br_lt_t, ↓br_lt_f, ↓br_eq_t, ↓br_eq_f, ↓br_lz_t, ↓br_lz_f, ↓br_ez_t, ↓br_ez_f, ↓br_gz_t, ↓br_gz_f, jw_id, jin_t, jix_t, ↓ite_t, ↓ite_f, cO.s h, cO.r0 h, cO.r1 h, cO.r2 h, cO.r3 h, cO.r4 h, cO.r5 h, cO.r6 h, cO.r7 h, cO.r8 h, cO.r9 h, cO.r10 h, cO.o h, cO.x111 h, cO.x111p h, cO.x111k h, cO.x111t h, cO.x112 h, cO.x114 h, cO.x116 h, cO.x118 h, cO.x84 h, cO.x84r0 h, cO.x84r1 h, cO.x84r2 h, cO.x84r3 h, cO.x84r4 h, cO.x84r5 h, cO.x84r6 h, cO.x84r7 h, cO.x85 h, cO.x87 h, cO.x89 h, cO.x91 h, cO.x93 h, cO.x95 h, cO.x97 h, cO.x99 h, cO.x84f8 h, cO.x84f9 h, cO.x84f10 h, cO.x84f11 h, cO.x84f12 h, cO.x84f14 h, cO.x84f15 h, cO.x84f16 h, cO.x84f17 h, c5]
      · rw [if_neg q3]
        obtain ⟨w1, e1, X1, f1⟩ := hX.push hB
        have h1 := X1.1
        have cr := h1.cr.fld (k := 5) (m := 291) (x := l) (by show s.1 288 ≤ 204; omega) (by show s.1 289 ≤ 16; omega) (by omega)
        rw [← over_u (k := 291) (x := l) (by omega) (by omega)] at cr
        have f : Fr (fun b => 111 ≤ b ∧ b ≤ 117) w1 (setI w1 111 5 l) := Fr.I ⟨by omega, by omega⟩
        refine ⟨_, ?_, (X1.row f cr).fin ((f1.mo (fun b hb => by omega)).tr (f.mo (fun b hb => by omega)))⟩
        have y1 := h1.s
        have y2 := h1.r5
        have y3 := h1.x111
        have y7 : mS w 136 = (1, 6, 0) := hX.2.2.1.ex.1
        simp (disch := omega) only [p152_0, p152_1, p152_4, p152_7, p152_8, p152_11, p152_12, p152_13, p152_16, p152_17, p152_18, p152_21, p152_22, p152_23, p152_26, p152_29, p152_30, p152_33, p152_34, p152_35, p152_38, p152_39, p152_40, p152_43, p152_44, p152_47, p152_50, p152_51, p152_54, p152_55, p152_58, p152_59, p152_62, p154_0, p154_1, p154_2, p154_5, p154_6, jwd_c, jwd_0, Nat.reduceLeDiff, Nat.reduceEqDiff, Nat.reduceAdd, Nat.reduceSub, Nat.reduceMul, Int.reduceAdd, Int.reduceSub, Int.reduceMul, Int.reduceNeg, Int.reduceEq, Int.reduceLT, Int.reduceLE, jq_ldi_i, jq_ldl_l, jq_lda_a, jq_inc_i, jq_gs_t, jq_gsb_t, jq_gb_t, jq_gr_2, jq_gr_4, jq_gw_2, jq_s_t, jq_b_t, jg_c, jg_n, js_c, js_n, jrm_c, jrm_n, j2_i, j2_l, j2_a, jq_c_i, jq_c_l, jq_c_0, jq_c_n, jwd_le, jw_c0, mS_I, mS_R, mS_J, mN_I, mN_R, mN_J, mR_I, mI_R, mJ_I, mJ_R, mI_J, mR_J, ↓reduceIte, decide_true, or_true, true_or, and_self, false_or, or_false, reduceCtorEq, Bool.false_eq_true, and_false, false_and, eq_self, true_and, and_true, zero_ne, ↓br_lt_t, ↓br_lt_f, ↓br_eq_t, ↓br_eq_f, ↓br_lz_t, ↓br_lz_f, ↓br_ez_t, ↓br_ez_f, ↓br_gz_t, ↓br_gz_f, jw_id, jin_t, jix_t, ↓ite_t, ↓ite_f, cO.s h, cO.r0 h, cO.r1 h, cO.r2 h, cO.r3 h, cO.r4 h, cO.r5 h, cO.r6 h, cO.r7 h, cO.r8 h, cO.r9 h, cO.r10 h, cO.o h, cO.x111 h, cO.x111p h, cO.x111k h, cO.x111t h, cO.x112 h, cO.x114 h, cO.x116 h, cO.x118 h, cO.x84 h, cO.x84r0 h, cO.x84r1 h, cO.x84r2 h, cO.x84r3 h, cO.x84r4 h, cO.x84r5 h, cO.x84r6 h, cO.x84r7 h, cO.x85 h, cO.x87 h, cO.x89 h, cO.x91 h, cO.x93 h, cO.x95 h, cO.x97 h, cO.x99 h, cO.x84f8 h, cO.x84f9 h, cO.x84f10 h, cO.x84f11 h, cO.x84f12 h, cO.x84f14 h, cO.x84f15 h, cO.x84f16 h, cO.x84f17 h, c5, e1, y1, y2, y3, y7]
    · rw [if_neg (fun z => q2 z.2)]
      refine ⟨_, ?_, (hX.mo (by omega)).no⟩
      simp (disch := omega) only [p152_0, p152_1, p152_4, p152_7, p152_8, p152_11, p152_12, p152_13, p152_16, p152_17, p152_18, p152_21, p152_22, p152_23, p152_26, p152_29, p152_30, p152_33, p152_34, p152_35, p152_38, p152_39, p152_40, p152_43, p152_44, p152_47, p152_50, p152_51, p152_54, p152_55, p152_58, p152_59, p152_62, p153_0, p153_1, p153_2, p153_5, p153_6, jwd_c, jwd_0, Nat.reduceLeDiff, Nat.reduceEqDiff, Nat.reduceAdd, Nat.reduceSub, Nat.reduceMul, Int.reduceAdd, Int.reduceSub, Int.reduceMul, Int.reduceNeg, Int.reduceEq, Int.reduceLT, Int.reduceLE, jq_ldi_i, jq_ldl_l, jq_lda_a, jq_inc_i, jq_gs_t, jq_gsb_t, jq_gb_t, jq_gr_2, jq_gr_4, jq_gw_2, jq_s_t, jq_b_t, jg_c, jg_n, js_c, js_n, jrm_c, jrm_n, j2_i, j2_l, j2_a, jq_c_i, jq_c_l, jq_c_0, jq_c_n, jwd_le, jw_c0, mS_I, mS_R, mS_J, mN_I, mN_R, mN_J, mR_I, mI_R, mJ_I, mJ_R, mI_J, mR_J, ↓reduceIte, decide_true, or_true, true_or, and_self, false_or, or_false, reduceCtorEq, Bool.false_eq_true, and_false, false_and, eq_self, true_and, and_true, zero_ne, ↓br_lt_t, ↓br_lt_f, ↓br_eq_t, ↓br_eq_f, ↓br_lz_t, ↓br_lz_f, ↓br_ez_t, ↓br_ez_f, ↓br_gz_t, ↓br_gz_f, jw_id, jin_t, jix_t, ↓ite_t, ↓ite_f, cO.s h, cO.r0 h, cO.r1 h, cO.r2 h, cO.r3 h, cO.r4 h, cO.r5 h, cO.r6 h, cO.r7 h, cO.r8 h, cO.r9 h, cO.r10 h, cO.o h, cO.x111 h, cO.x111p h, cO.x111k h, cO.x111t h, cO.x112 h, cO.x114 h, cO.x116 h, cO.x118 h, cO.x84 h, cO.x84r0 h, cO.x84r1 h, cO.x84r2 h, cO.x84r3 h, cO.x84r4 h, cO.x84r5 h, cO.x84r6 h, cO.x84r7 h, cO.x85 h, cO.x87 h, cO.x89 h, cO.x91 h, cO.x93 h, cO.x95 h, cO.x97 h, cO.x99 h, cO.x84f8 h, cO.x84f9 h, cO.x84f10 h, cO.x84f11 h, cO.x84f12 h, cO.x84f14 h, cO.x84f15 h, cO.x84f16 h, cO.x84f17 h]
  · rw [if_neg (fun z => q1 z.1)]
    refine ⟨_, ?_, (hX.mo (by omega)).no⟩
    simp (disch := omega) only [p152_0, p152_1, p152_4, p152_7, p152_8, p152_11, p152_12, p152_13, p152_16, p152_17, p152_18, p152_21, p152_22, p152_23, p152_26, p152_29, p152_30, p152_33, p152_34, p152_35, p152_38, p152_39, p152_40, p152_43, p152_44, p152_47, p152_50, p152_51, p152_54, p152_55, p152_58, p152_59, p152_62, p153_0, p153_1, p153_2, p153_5, p153_6, jwd_c, jwd_0, Nat.reduceLeDiff, Nat.reduceEqDiff, Nat.reduceAdd, Nat.reduceSub, Nat.reduceMul, Int.reduceAdd, Int.reduceSub, Int.reduceMul, Int.reduceNeg, Int.reduceEq, Int.reduceLT, Int.reduceLE, jq_ldi_i, jq_ldl_l, jq_lda_a, jq_inc_i, jq_gs_t, jq_gsb_t, jq_gb_t, jq_gr_2, jq_gr_4, jq_gw_2, jq_s_t, jq_b_t, jg_c, jg_n, js_c, js_n, jrm_c, jrm_n, j2_i, j2_l, j2_a, jq_c_i, jq_c_l, jq_c_0, jq_c_n, jwd_le, jw_c0, mS_I, mS_R, mS_J, mN_I, mN_R, mN_J, mR_I, mI_R, mJ_I, mJ_R, mI_J, mR_J, ↓reduceIte, decide_true, or_true, true_or, and_self, false_or, or_false, reduceCtorEq, Bool.false_eq_true, and_false, false_and, eq_self, true_and, and_true, zero_ne, ↓br_lt_t, ↓br_lt_f, ↓br_eq_t, ↓br_eq_f, ↓br_lz_t, ↓br_lz_f, ↓br_ez_t, ↓br_ez_f, ↓br_gz_t, ↓br_gz_f, jw_id, jin_t, jix_t, ↓ite_t, ↓ite_f, cO.s h, cO.r0 h, cO.r1 h, cO.r2 h, cO.r3 h, cO.r4 h, cO.r5 h, cO.r6 h, cO.r7 h, cO.r8 h, cO.r9 h, cO.r10 h, cO.o h, cO.x111 h, cO.x111p h, cO.x111k h, cO.x111t h, cO.x112 h, cO.x114 h, cO.x116 h, cO.x118 h, cO.x84 h, cO.x84r0 h, cO.x84r1 h, cO.x84r2 h, cO.x84r3 h, cO.x84r4 h, cO.x84r5 h, cO.x84r6 h, cO.x84r7 h, cO.x85 h, cO.x87 h, cO.x89 h, cO.x91 h, cO.x93 h, cO.x95 h, cO.x97 h, cO.x99 h, cO.x84f8 h, cO.x84f9 h, cO.x84f10 h, cO.x84f11 h, cO.x84f12 h, cO.x84f14 h, cO.x84f15 h, cO.x84f16 h, cO.x84f17 h]
theorem c_band (hX : cX w H s Bt) (hB : Bt < 100000) (hk : HOK H) (ri : RI H B s.1) {x y : Int} (x1 : -2147483648 ≤ x) (x2 : x < 2147483648) (y1 : -2147483648 ≤ y) (y2 : y < 2147483648) : ∃ u, rn 157 (0, [(0, jvr 64), (1, .inl x), (2, .inl y)], [], w) = some (some (.inl (A41 H s x y).1), u) ∧ qA w u H (A41 H s x y).2.2 (Bt + 1) (A41 H s x y).2.1 := by
  have h := hX.1
  have h16 := ri.1.1
  have kc := hk.1
  have e := h.cell hk x1 x2 y1 y2
  have c10 : mI w 111 10 = s.1 296 := h.cr.2.2.2.2.2.2.2.2.2.2.2.2.2.2
  obtain ⟨-, -, -, -, -, -, -, -, -, -, n1, n2, n3, n4, n5⟩ := ri.1.2.2
  have N := (hX.mo (Bt2 := Bt + 1) (by omega))
  unfold A41
  by_cases q : 0 ≤ x ∧ x < H 0 0 ∧ 0 ≤ y ∧ y < H 0 1
  · have c := cell_in hk q
    rw [if_pos q] at e
    generalize y * H 0 0 + x = C at *
    have e2 := sg_in h.ch.g1 (l := C) (k := 0) c.1 (by omega) (by omega) (by omega)
    have kg := hk.2.2.2.1 C c.1 c.2
    by_cases q2 : H 17 C.toNat = 2
    · rw [if_neg (fun z => z.2 q2)]
      refine ⟨_, ?_, N.no⟩
      simp (disch := omega) only [p157_0, p157_1, p157_2, p157_3, p157_6, p157_7, p157_8, p157_11, p157_12, p157_15, p157_18, p157_19, p157_20, p157_23, p157_24, p157_27, p157_28, p157_29, p157_32, p157_33, p157_34, p157_37, p157_40, p157_43, p157_44, p157_46, p157_49, p157_50, p157_51, p157_54, p157_57, p157_58, p157_61, p157_62, p157_63, p157_66, p157_67, p157_68, p157_71, p157_72, p157_75, p157_78, p157_79, p157_82, p157_83, p157_86, p157_87, p157_90, p153_0, p153_1, p153_2, p153_5, p153_6, jwd_c, jwd_0, Nat.reduceLeDiff, Nat.reduceEqDiff, Nat.reduceAdd, Nat.reduceSub, Nat.reduceMul, Int.reduceAdd, Int.reduceSub, Int.reduceMul, Int.reduceNeg, Int.reduceEq, Int.reduceLT, Int.reduceLE, jq_ldi_i, jq_ldl_l, jq_lda_a, jq_inc_i, jq_gs_t, jq_gsb_t, jq_gb_t, jq_gr_2, jq_gr_4, jq_gw_2, jq_s_t, jq_b_t, jg_c, jg_n, js_c, js_n, jrm_c, jrm_n, j2_i, j2_l, j2_a, jq_c_i, jq_c_l, jq_c_0, jq_c_n, jwd_le, jw_c0, mS_I, mS_R, mS_J, mN_I, mN_R, mN_J, mR_I, mI_R, mJ_I, mJ_R, mI_J, mR_J, ↓reduceIte, decide_true, or_true, true_or, and_self, false_or, or_false, reduceCtorEq, Bool.false_eq_true, and_false, false_and, eq_self, true_and, and_true, zero_ne, ↓br_lt_t, ↓br_lt_f, ↓br_eq_t, ↓br_eq_f, ↓br_lz_t, ↓br_lz_f, ↓br_ez_t, ↓br_ez_f, ↓br_gz_t, ↓br_gz_f, jw_id, jin_t, jix_t, ↓ite_t, ↓ite_f, cO.s h, cO.r0 h, cO.r1 h, cO.r2 h, cO.r3 h, cO.r4 h, cO.r5 h, cO.r6 h, cO.r7 h, cO.r8 h, cO.r9 h, cO.r10 h, cO.o h, cO.x111 h, cO.x111p h, cO.x111k h, cO.x111t h, cO.x112 h, cO.x114 h, cO.x116 h, cO.x118 h, cO.x84 h, cO.x84r0 h, cO.x84r1 h, cO.x84r2 h, cO.x84r3 h, cO.x84r4 h, cO.x84r5 h, cO.x84r6 h, cO.x84r7 h, cO.x85 h, cO.x87 h, cO.x89 h, cO.x91 h, cO.x93 h, cO.x95 h, cO.x97 h, cO.x99 h, cO.x84f8 h, cO.x84f9 h, cO.x84f10 h, cO.x84f11 h, cO.x84f12 h, cO.x84f14 h, cO.x84f15 h, cO.x84f16 h, cO.x84f17 h, e, e2]
    · rw [if_pos ⟨q, q2⟩]
      by_cases q3 : 0 ≤ s.1 296
      · rw [if_pos q3]
        by_cases q4 : s.1 296 = C
        · rw [if_pos q4]
          refine ⟨_, ?_, N.no⟩
          simp (disch := omega) only [p157_0, p157_1, p157_2, p157_3, p157_6, p157_7, p157_8, p157_11, p157_12, p157_15, p157_18, p157_19, p157_20, p157_23, p157_24, p157_27, p157_28, p157_29, p157_32, p157_33, p157_34, p157_37, p157_40, p157_43, p157_44, p157_46, p157_49, p157_50, p157_51, p157_54, p157_57, p157_58, p157_61, p157_62, p157_63, p157_66, p157_67, p157_68, p157_71, p157_72, p157_75, p157_78, p157_79, p157_82, p157_83, p157_86, p157_87, p157_90, p153_0, p153_1, p153_2, p153_5, p153_6, jwd_c, jwd_0, Nat.reduceLeDiff, Nat.reduceEqDiff, Nat.reduceAdd, Nat.reduceSub, Nat.reduceMul, Int.reduceAdd, Int.reduceSub, Int.reduceMul, Int.reduceNeg, Int.reduceEq, Int.reduceLT, Int.reduceLE, jq_ldi_i, jq_ldl_l, jq_lda_a, jq_inc_i, jq_gs_t, jq_gsb_t, jq_gb_t, jq_gr_2, jq_gr_4, jq_gw_2, jq_s_t, jq_b_t, jg_c, jg_n, js_c, js_n, jrm_c, jrm_n, j2_i, j2_l, j2_a, jq_c_i, jq_c_l, jq_c_0, jq_c_n, jwd_le, jw_c0, mS_I, mS_R, mS_J, mN_I, mN_R, mN_J, mR_I, mI_R, mJ_I, mJ_R, mI_J, mR_J, ↓reduceIte, decide_true, or_true, true_or, and_self, false_or, or_false, reduceCtorEq, Bool.false_eq_true, and_false, false_and, eq_self, true_and, and_true, zero_ne, ↓br_lt_t, ↓br_lt_f, ↓br_eq_t, ↓br_eq_f, ↓br_lz_t, ↓br_lz_f, ↓br_ez_t, ↓br_ez_f, ↓br_gz_t, ↓br_gz_f, jw_id, jin_t, jix_t, ↓ite_t, ↓ite_f, cO.s h, cO.r0 h, cO.r1 h, cO.r2 h, cO.r3 h, cO.r4 h, cO.r5 h, cO.r6 h, cO.r7 h, cO.r8 h, cO.r9 h, cO.r10 h, cO.o h, cO.x111 h, cO.x111p h, cO.x111k h, cO.x111t h, cO.x112 h, cO.x114 h, cO.x116 h, cO.x118 h, cO.x84 h, cO.x84r0 h, cO.x84r1 h, cO.x84r2 h, cO.x84r3 h, cO.x84r4 h, cO.x84r5 h, cO.x84r6 h, cO.x84r7 h, cO.x85 h, cO.x87 h, cO.x89 h, cO.x91 h, cO.x93 h, cO.x95 h, cO.x97 h, cO.x99 h, cO.x84f8 h, cO.x84f9 h, cO.x84f10 h, cO.x84f11 h, cO.x84f12 h, cO.x84f14 h, cO.x84f15 h, cO.x84f16 h, cO.x84f17 h, e, e2, c10]
        · rw [if_neg q4]
          obtain ⟨w1, e1, X1, f1⟩ := hX.push hB
          have h1 := X1.1
          have cr := h1.cr.fld (k := 10) (m := 296) (x := C) (by show s.1 288 ≤ 204; omega) (by show s.1 289 ≤ 16; omega) (by omega)
          rw [← over_u (k := 296) (x := C) (by omega) (by omega)] at cr
          have f : Fr (fun b => 111 ≤ b ∧ b ≤ 117) w1 (setI w1 111 10 C) := Fr.I ⟨by omega, by omega⟩
          refine ⟨_, ?_, (X1.row f cr).fin ((f1.mo (fun b hb => by omega)).tr (f.mo (fun b hb => by omega)))⟩
          have y1 := h1.s
          have y2 := h1.r5
          have y3 := h1.x111
          have y7 : mS w 136 = (1, 6, 0) := hX.2.2.1.ex.1
          simp (disch := omega) only [p157_0, p157_1, p157_2, p157_3, p157_6, p157_7, p157_8, p157_11, p157_12, p157_15, p157_18, p157_19, p157_20, p157_23, p157_24, p157_27, p157_28, p157_29, p157_32, p157_33, p157_34, p157_37, p157_40, p157_43, p157_44, p157_46, p157_49, p157_50, p157_51, p157_54, p157_57, p157_58, p157_61, p157_62, p157_63, p157_66, p157_67, p157_68, p157_71, p157_72, p157_75, p157_78, p157_79, p157_82, p157_83, p157_86, p157_87, p157_90, p154_0, p154_1, p154_2, p154_5, p154_6, jwd_c, jwd_0, Nat.reduceLeDiff, Nat.reduceEqDiff, Nat.reduceAdd, Nat.reduceSub, Nat.reduceMul, Int.reduceAdd, Int.reduceSub, Int.reduceMul, Int.reduceNeg, Int.reduceEq, Int.reduceLT, Int.reduceLE, jq_ldi_i, jq_ldl_l, jq_lda_a, jq_inc_i, jq_gs_t, jq_gsb_t, jq_gb_t, jq_gr_2, jq_gr_4, jq_gw_2, jq_s_t, jq_b_t, jg_c, jg_n, js_c, js_n, jrm_c, jrm_n, j2_i, j2_l, j2_a, jq_c_i, jq_c_l, jq_c_0, jq_c_n, jwd_le, jw_c0, mS_I, mS_R, mS_J, mN_I, mN_R, mN_J, mR_I, mI_R, mJ_I, mJ_R, mI_J, mR_J, ↓reduceIte, decide_true, or_true, true_or, and_self, false_or, or_false, reduceCtorEq, Bool.false_eq_true, and_false, false_and, eq_self, true_and, and_true, zero_ne, ↓br_lt_t, ↓br_lt_f, ↓br_eq_t, ↓br_eq_f, ↓br_lz_t, ↓br_lz_f, ↓br_ez_t, ↓br_ez_f, ↓br_gz_t, ↓br_gz_f, jw_id, jin_t, jix_t, ↓ite_t, ↓ite_f, cO.s h, cO.r0 h, cO.r1 h, cO.r2 h, cO.r3 h, cO.r4 h, cO.r5 h, cO.r6 h, cO.r7 h, cO.r8 h, cO.r9 h, cO.r10 h, cO.o h, cO.x111 h, cO.x111p h, cO.x111k h, cO.x111t h, cO.x112 h, cO.x114 h, cO.x116 h, cO.x118 h, cO.x84 h, cO.x84r0 h, cO.x84r1 h, cO.x84r2 h, cO.x84r3 h, cO.x84r4 h, cO.x84r5 h, cO.x84r6 h, cO.x84r7 h, cO.x85 h, cO.x87 h, cO.x89 h, cO.x91 h, cO.x93 h, cO.x95 h, cO.x97 h, cO.x99 h, cO.x84f8 h, cO.x84f9 h, cO.x84f10 h, cO.x84f11 h, cO.x84f12 h, cO.x84f14 h, cO.x84f15 h, cO.x84f16 h, cO.x84f17 h, e, e2, c10, e1, y1, y2, y3, y7]
      · rw [if_neg q3]
        refine ⟨_, ?_, N.no⟩
        simp (disch := omega) only [p157_0, p157_1, p157_2, p157_3, p157_6, p157_7, p157_8, p157_11, p157_12, p157_15, p157_18, p157_19, p157_20, p157_23, p157_24, p157_27, p157_28, p157_29, p157_32, p157_33, p157_34, p157_37, p157_40, p157_43, p157_44, p157_46, p157_49, p157_50, p157_51, p157_54, p157_57, p157_58, p157_61, p157_62, p157_63, p157_66, p157_67, p157_68, p157_71, p157_72, p157_75, p157_78, p157_79, p157_82, p157_83, p157_86, p157_87, p157_90, p153_0, p153_1, p153_2, p153_5, p153_6, jwd_c, jwd_0, Nat.reduceLeDiff, Nat.reduceEqDiff, Nat.reduceAdd, Nat.reduceSub, Nat.reduceMul, Int.reduceAdd, Int.reduceSub, Int.reduceMul, Int.reduceNeg, Int.reduceEq, Int.reduceLT, Int.reduceLE, jq_ldi_i, jq_ldl_l, jq_lda_a, jq_inc_i, jq_gs_t, jq_gsb_t, jq_gb_t, jq_gr_2, jq_gr_4, jq_gw_2, jq_s_t, jq_b_t, jg_c, jg_n, js_c, js_n, jrm_c, jrm_n, j2_i, j2_l, j2_a, jq_c_i, jq_c_l, jq_c_0, jq_c_n, jwd_le, jw_c0, mS_I, mS_R, mS_J, mN_I, mN_R, mN_J, mR_I, mI_R, mJ_I, mJ_R, mI_J, mR_J, ↓reduceIte, decide_true, or_true, true_or, and_self, false_or, or_false, reduceCtorEq, Bool.false_eq_true, and_false, false_and, eq_self, true_and, and_true, zero_ne, ↓br_lt_t, ↓br_lt_f, ↓br_eq_t, ↓br_eq_f, ↓br_lz_t, ↓br_lz_f, ↓br_ez_t, ↓br_ez_f, ↓br_gz_t, ↓br_gz_f, jw_id, jin_t, jix_t, ↓ite_t, ↓ite_f, cO.s h, cO.r0 h, cO.r1 h, cO.r2 h, cO.r3 h, cO.r4 h, cO.r5 h, cO.r6 h, cO.r7 h, cO.r8 h, cO.r9 h, cO.r10 h, cO.o h, cO.x111 h, cO.x111p h, cO.x111k h, cO.x111t h, cO.x112 h, cO.x114 h, cO.x116 h, cO.x118 h, cO.x84 h, cO.x84r0 h, cO.x84r1 h, cO.x84r2 h, cO.x84r3 h, cO.x84r4 h, cO.x84r5 h, cO.x84r6 h, cO.x84r7 h, cO.x85 h, cO.x87 h, cO.x89 h, cO.x91 h, cO.x93 h, cO.x95 h, cO.x97 h, cO.x99 h, cO.x84f8 h, cO.x84f9 h, cO.x84f10 h, cO.x84f11 h, cO.x84f12 h, cO.x84f14 h, cO.x84f15 h, cO.x84f16 h, cO.x84f17 h, e, e2, c10]
  · rw [if_neg q] at e
    rw [if_neg (fun z => q z.1)]
    refine ⟨_, ?_, N.no⟩
    simp (disch := omega) only [p157_0, p157_1, p157_2, p157_3, p157_6, p157_7, p157_8, p157_11, p157_12, p157_15, p157_18, p157_19, p157_20, p157_23, p157_24, p157_27, p157_28, p157_29, p157_32, p157_33, p157_34, p157_37, p157_40, p157_43, p157_44, p157_46, p157_49, p157_50, p157_51, p157_54, p157_57, p157_58, p157_61, p157_62, p157_63, p157_66, p157_67, p157_68, p157_71, p157_72, p157_75, p157_78, p157_79, p157_82, p157_83, p157_86, p157_87, p157_90, p153_0, p153_1, p153_2, p153_5, p153_6, jwd_c, jwd_0, Nat.reduceLeDiff, Nat.reduceEqDiff, Nat.reduceAdd, Nat.reduceSub, Nat.reduceMul, Int.reduceAdd, Int.reduceSub, Int.reduceMul, Int.reduceNeg, Int.reduceEq, Int.reduceLT, Int.reduceLE, jq_ldi_i, jq_ldl_l, jq_lda_a, jq_inc_i, jq_gs_t, jq_gsb_t, jq_gb_t, jq_gr_2, jq_gr_4, jq_gw_2, jq_s_t, jq_b_t, jg_c, jg_n, js_c, js_n, jrm_c, jrm_n, j2_i, j2_l, j2_a, jq_c_i, jq_c_l, jq_c_0, jq_c_n, jwd_le, jw_c0, mS_I, mS_R, mS_J, mN_I, mN_R, mN_J, mR_I, mI_R, mJ_I, mJ_R, mI_J, mR_J, ↓reduceIte, decide_true, or_true, true_or, and_self, false_or, or_false, reduceCtorEq, Bool.false_eq_true, and_false, false_and, eq_self, true_and, and_true, zero_ne, ↓br_lt_t, ↓br_lt_f, ↓br_eq_t, ↓br_eq_f, ↓br_lz_t, ↓br_lz_f, ↓br_ez_t, ↓br_ez_f, ↓br_gz_t, ↓br_gz_f, jw_id, jin_t, jix_t, ↓ite_t, ↓ite_f, cO.s h, cO.r0 h, cO.r1 h, cO.r2 h, cO.r3 h, cO.r4 h, cO.r5 h, cO.r6 h, cO.r7 h, cO.r8 h, cO.r9 h, cO.r10 h, cO.o h, cO.x111 h, cO.x111p h, cO.x111k h, cO.x111t h, cO.x112 h, cO.x114 h, cO.x116 h, cO.x118 h, cO.x84 h, cO.x84r0 h, cO.x84r1 h, cO.x84r2 h, cO.x84r3 h, cO.x84r4 h, cO.x84r5 h, cO.x84r6 h, cO.x84r7 h, cO.x85 h, cO.x87 h, cO.x89 h, cO.x91 h, cO.x93 h, cO.x95 h, cO.x97 h, cO.x99 h, cO.x84f8 h, cO.x84f9 h, cO.x84f10 h, cO.x84f11 h, cO.x84f12 h, cO.x84f14 h, cO.x84f15 h, cO.x84f16 h, cO.x84f17 h, e]
theorem over_out {i : Int} : gOver (gOut r i) = gOver r := by
  unfold gOver
  rw [gOut_hi (n := 297) (by omega) (by omega), gOut_hi (n := 288) (by omega) (by omega)]
theorem c_letGo (hX : cX w H s Bt) (hB : Bt < 100000) (ri : RI H B s.1) {i : Int} (x1 : -2147483648 ≤ i) (x2 : i < 2147483648) : ∃ u, rn 156 (0, [(0, jvr 64), (1, .inl i)], [], w) = some (some (.inl (A40 s i).1), u) ∧ qA w u H (A40 s i).2.2 (Bt + 1) (A40 s i).2.1 := by
  have h := hX.1
  have h16 := ri.1.1
  have e0 := h.isd ri.1 x1 x2
  have N := (hX.mo (Bt2 := Bt + 1) (by omega))
  unfold A40
  by_cases q : 0 ≤ i ∧ i < s.1 289
  · rw [if_pos q] at e0 ⊢
    by_cases q2 : i = 0
    · rw [if_pos q2]
      refine ⟨_, ?_, N.no⟩
      simp (disch := omega) only [p156_0, p156_1, p156_2, p156_5, p156_8, p156_9, p156_10, p156_13, p156_14, p156_15, p156_18, p156_19, p156_20, p156_23, p156_24, p156_25, p156_28, p156_29, p156_32, p156_35, p156_36, p156_39, p156_42, p156_43, p156_46, p156_47, p156_50, p153_0, p153_1, p153_2, p153_5, p153_6, jwd_c, jwd_0, Nat.reduceLeDiff, Nat.reduceEqDiff, Nat.reduceAdd, Nat.reduceSub, Nat.reduceMul, Int.reduceAdd, Int.reduceSub, Int.reduceMul, Int.reduceNeg, Int.reduceEq, Int.reduceLT, Int.reduceLE, jq_ldi_i, jq_ldl_l, jq_lda_a, jq_inc_i, jq_gs_t, jq_gsb_t, jq_gb_t, jq_gr_2, jq_gr_4, jq_gw_2, jq_s_t, jq_b_t, jg_c, jg_n, js_c, js_n, jrm_c, jrm_n, j2_i, j2_l, j2_a, jq_c_i, jq_c_l, jq_c_0, jq_c_n, jwd_le, jw_c0, mS_I, mS_R, mS_J, mN_I, mN_R, mN_J, mR_I, mI_R, mJ_I, mJ_R, mI_J, mR_J, ↓reduceIte, decide_true, or_true, true_or, and_self, false_or, or_false, reduceCtorEq, Bool.false_eq_true, and_false, false_and, eq_self, true_and, and_true, zero_ne, ↓br_lt_t, ↓br_lt_f, ↓br_eq_t, ↓br_eq_f, ↓br_lz_t, ↓br_lz_f, ↓br_ez_t, ↓br_ez_f, ↓br_gz_t, ↓br_gz_f, jw_id, jin_t, jix_t, ↓ite_t, ↓ite_f, cO.s h, cO.r0 h, cO.r1 h, cO.r2 h, cO.r3 h, cO.r4 h, cO.r5 h, cO.r6 h, cO.r7 h, cO.r8 h, cO.r9 h, cO.r10 h, cO.o h, cO.x111 h, cO.x111p h, cO.x111k h, cO.x111t h, cO.x112 h, cO.x114 h, cO.x116 h, cO.x118 h, cO.x84 h, cO.x84r0 h, cO.x84r1 h, cO.x84r2 h, cO.x84r3 h, cO.x84r4 h, cO.x84r5 h, cO.x84r6 h, cO.x84r7 h, cO.x85 h, cO.x87 h, cO.x89 h, cO.x91 h, cO.x93 h, cO.x95 h, cO.x97 h, cO.x99 h, cO.x84f8 h, cO.x84f9 h, cO.x84f10 h, cO.x84f11 h, cO.x84f12 h, cO.x84f14 h, cO.x84f15 h, cO.x84f16 h, cO.x84f17 h, e0]
    · rw [if_neg q2]
      obtain ⟨w1, e1, X1, f1⟩ := hX.push hB
      have h1 := X1.1
      obtain ⟨w2, e2, cr, f2⟩ := h1.cr.drop (by show s.1 288 ≤ 204; omega) (by show s.1 289 ≤ 16; omega) (i := i) q.1 q.2
      rw [← over_out (i := i)] at cr
      have f2 : Fr (sP 114) w1 w2 := f2
      have f : Fr (fun b => 111 ≤ b ∧ b ≤ 117) w1 w2 := f2.mo (fun b hb => by unfold sP at hb; omega)
      have X2 := X1.row f cr
      refine ⟨_, ?_, X2.fin ((f1.mo (fun b hb => by omega)).tr (f.mo (fun b hb => by omega)))⟩
      have y1 := h1.s
      have y2 := h1.r5
      have y3 := h1.x111
      have y4 := h1.x111k
      have y5 := h1.x114
      have y6 := X2.s64
      have y7 : mS w 136 = (1, 6, 0) := hX.2.2.1.ex.1
      simp (disch := omega) only [p156_0, p156_1, p156_2, p156_5, p156_8, p156_9, p156_10, p156_13, p156_14, p156_15, p156_18, p156_19, p156_20, p156_23, p156_24, p156_25, p156_28, p156_29, p156_32, p156_35, p156_36, p156_39, p156_42, p156_43, p156_46, p156_47, p156_50, p154_0, p154_1, p154_2, p154_5, p154_6, jwd_c, jwd_0, Nat.reduceLeDiff, Nat.reduceEqDiff, Nat.reduceAdd, Nat.reduceSub, Nat.reduceMul, Int.reduceAdd, Int.reduceSub, Int.reduceMul, Int.reduceNeg, Int.reduceEq, Int.reduceLT, Int.reduceLE, jq_ldi_i, jq_ldl_l, jq_lda_a, jq_inc_i, jq_gs_t, jq_gsb_t, jq_gb_t, jq_gr_2, jq_gr_4, jq_gw_2, jq_s_t, jq_b_t, jg_c, jg_n, js_c, js_n, jrm_c, jrm_n, j2_i, j2_l, j2_a, jq_c_i, jq_c_l, jq_c_0, jq_c_n, jwd_le, jw_c0, mS_I, mS_R, mS_J, mN_I, mN_R, mN_J, mR_I, mI_R, mJ_I, mJ_R, mI_J, mR_J, ↓reduceIte, decide_true, or_true, true_or, and_self, false_or, or_false, reduceCtorEq, Bool.false_eq_true, and_false, false_and, eq_self, true_and, and_true, zero_ne, ↓br_lt_t, ↓br_lt_f, ↓br_eq_t, ↓br_eq_f, ↓br_lz_t, ↓br_lz_f, ↓br_ez_t, ↓br_ez_f, ↓br_gz_t, ↓br_gz_f, jw_id, jin_t, jix_t, ↓ite_t, ↓ite_f, cO.s h, cO.r0 h, cO.r1 h, cO.r2 h, cO.r3 h, cO.r4 h, cO.r5 h, cO.r6 h, cO.r7 h, cO.r8 h, cO.r9 h, cO.r10 h, cO.o h, cO.x111 h, cO.x111p h, cO.x111k h, cO.x111t h, cO.x112 h, cO.x114 h, cO.x116 h, cO.x118 h, cO.x84 h, cO.x84r0 h, cO.x84r1 h, cO.x84r2 h, cO.x84r3 h, cO.x84r4 h, cO.x84r5 h, cO.x84r6 h, cO.x84r7 h, cO.x85 h, cO.x87 h, cO.x89 h, cO.x91 h, cO.x93 h, cO.x95 h, cO.x97 h, cO.x99 h, cO.x84f8 h, cO.x84f9 h, cO.x84f10 h, cO.x84f11 h, cO.x84f12 h, cO.x84f14 h, cO.x84f15 h, cO.x84f16 h, cO.x84f17 h, e0, e1, e2, y1, y2, y3, y4, y5, y6, y7]
  · rw [if_neg q] at e0 ⊢
    refine ⟨_, ?_, N.no⟩
    simp (disch := omega) only [p156_0, p156_1, p156_2, p156_5, p156_8, p156_9, p156_10, p156_13, p156_14, p156_15, p156_18, p156_19, p156_20, p156_23, p156_24, p156_25, p156_28, p156_29, p156_32, p156_35, p156_36, p156_39, p156_42, p156_43, p156_46, p156_47, p156_50, p153_0, p153_1, p153_2, p153_5, p153_6, jwd_c, jwd_0, Nat.reduceLeDiff, Nat.reduceEqDiff, Nat.reduceAdd, Nat.reduceSub, Nat.reduceMul, Int.reduceAdd, Int.reduceSub, Int.reduceMul, Int.reduceNeg, Int.reduceEq, Int.reduceLT, Int.reduceLE, jq_ldi_i, jq_ldl_l, jq_lda_a, jq_inc_i, jq_gs_t, jq_gsb_t, jq_gb_t, jq_gr_2, jq_gr_4, jq_gw_2, jq_s_t, jq_b_t, jg_c, jg_n, js_c, js_n, jrm_c, jrm_n, j2_i, j2_l, j2_a, jq_c_i, jq_c_l, jq_c_0, jq_c_n, jwd_le, jw_c0, mS_I, mS_R, mS_J, mN_I, mN_R, mN_J, mR_I, mI_R, mJ_I, mJ_R, mI_J, mR_J, ↓reduceIte, decide_true, or_true, true_or, and_self, false_or, or_false, reduceCtorEq, Bool.false_eq_true, and_false, false_and, eq_self, true_and, and_true, zero_ne, ↓br_lt_t, ↓br_lt_f, ↓br_eq_t, ↓br_eq_f, ↓br_lz_t, ↓br_lz_f, ↓br_ez_t, ↓br_ez_f, ↓br_gz_t, ↓br_gz_f, jw_id, jin_t, jix_t, ↓ite_t, ↓ite_f, cO.s h, cO.r0 h, cO.r1 h, cO.r2 h, cO.r3 h, cO.r4 h, cO.r5 h, cO.r6 h, cO.r7 h, cO.r8 h, cO.r9 h, cO.r10 h, cO.o h, cO.x111 h, cO.x111p h, cO.x111k h, cO.x111t h, cO.x112 h, cO.x114 h, cO.x116 h, cO.x118 h, cO.x84 h, cO.x84r0 h, cO.x84r1 h, cO.x84r2 h, cO.x84r3 h, cO.x84r4 h, cO.x84r5 h, cO.x84r6 h, cO.x84r7 h, cO.x85 h, cO.x87 h, cO.x89 h, cO.x91 h, cO.x93 h, cO.x95 h, cO.x97 h, cO.x99 h, cO.x84f8 h, cO.x84f9 h, cO.x84f10 h, cO.x84f11 h, cO.x84f12 h, cO.x84f14 h, cO.x84f15 h, cO.x84f16 h, cO.x84f17 h, e0]
theorem tk_keep {r q : Nat → Int} {i j : Int} (k : Nat) (h : k < 204 ∨ 284 ≤ k) (i1 : 0 ≤ i) (i2 : i < 16) : gTake r q i j k = r k := by
  unfold gTake
  rw [up1_n (by omega), up1_n (by omega), up1_n (by omega), up1_n (by omega)]
theorem over_tk {q : Nat → Int} {i j : Int} (i1 : 0 ≤ i) (i2 : i < 16) : gOver (gTake r q i j) = gOver r := by
  unfold gOver
  rw [tk_keep 297 (by omega) i1 i2, tk_keep 288 (by omega) i1 i2]
theorem c_change (hX : cX w H s Bt) (hB : Bt < 100000) (ri : RI H B s.1) {i j : Int} (x1 : -2147483648 ≤ i) (x2 : i < 2147483648) (y1 : -2147483648 ≤ j) (y2 : j < 2147483648) : ∃ u, rn 155 (0, [(0, jvr 64), (1, .inl i), (2, .inl j)], [], w) = some (some (.inl (A39 s i j).1), u) ∧ qA w u H (A39 s i j).2.2 (Bt + 1) (A39 s i j).2.1 := by
  have h := hX.1
  have h16 := ri.1.1
  have e0 := h.isd ri.1 x1 x2
  have e9 := h.isd ri.1 y1 y2
  have N := (hX.mo (Bt2 := Bt + 1) (by omega))
  unfold A39
  by_cases q1 : 1 ≤ i
  · by_cases q2 : 1 ≤ j
    · by_cases q3 : i = j
      · rw [if_neg (fun z => z.2.2 q3)]
        refine ⟨_, ?_, N.no⟩
        simp (disch := omega) only [p155_0, p155_1, p155_2, p155_5, p155_6, p155_7, p155_10, p155_11, p155_12, p155_15, p155_16, p155_17, p155_20, p155_23, p155_24, p155_25, p155_28, p155_31, p155_32, p155_33, p155_36, p155_37, p155_38, p155_41, p155_42, p155_45, p155_48, p155_49, p155_52, p155_55, p155_56, p155_59, p155_62, p155_63, p155_66, p155_67, p155_68, p155_71, p155_74, p155_75, p155_78, p155_79, p155_82, p155_83, p155_84, p155_87, p155_90, p155_91, p155_94, p155_95, p155_98, p153_0, p153_1, p153_2, p153_5, p153_6, jwd_c, jwd_0, Nat.reduceLeDiff, Nat.reduceEqDiff, Nat.reduceAdd, Nat.reduceSub, Nat.reduceMul, Int.reduceAdd, Int.reduceSub, Int.reduceMul, Int.reduceNeg, Int.reduceEq, Int.reduceLT, Int.reduceLE, jq_ldi_i, jq_ldl_l, jq_lda_a, jq_inc_i, jq_gs_t, jq_gsb_t, jq_gb_t, jq_gr_2, jq_gr_4, jq_gw_2, jq_s_t, jq_b_t, jg_c, jg_n, js_c, js_n, jrm_c, jrm_n, j2_i, j2_l, j2_a, jq_c_i, jq_c_l, jq_c_0, jq_c_n, jwd_le, jw_c0, mS_I, mS_R, mS_J, mN_I, mN_R, mN_J, mR_I, mI_R, mJ_I, mJ_R, mI_J, mR_J, ↓reduceIte, decide_true, or_true, true_or, and_self, false_or, or_false, reduceCtorEq, Bool.false_eq_true, and_false, false_and, eq_self, true_and, and_true, zero_ne, ↓br_lt_t, ↓br_lt_f, ↓br_eq_t, ↓br_eq_f, ↓br_lz_t, ↓br_lz_f, ↓br_ez_t, ↓br_ez_f, ↓br_gz_t, ↓br_gz_f, jw_id, jin_t, jix_t, ↓ite_t, ↓ite_f, cO.s h, cO.r0 h, cO.r1 h, cO.r2 h, cO.r3 h, cO.r4 h, cO.r5 h, cO.r6 h, cO.r7 h, cO.r8 h, cO.r9 h, cO.r10 h, cO.o h, cO.x111 h, cO.x111p h, cO.x111k h, cO.x111t h, cO.x112 h, cO.x114 h, cO.x116 h, cO.x118 h, cO.x84 h, cO.x84r0 h, cO.x84r1 h, cO.x84r2 h, cO.x84r3 h, cO.x84r4 h, cO.x84r5 h, cO.x84r6 h, cO.x84r7 h, cO.x85 h, cO.x87 h, cO.x89 h, cO.x91 h, cO.x93 h, cO.x95 h, cO.x97 h, cO.x99 h, cO.x84f8 h, cO.x84f9 h, cO.x84f10 h, cO.x84f11 h, cO.x84f12 h, cO.x84f14 h, cO.x84f15 h, cO.x84f16 h, cO.x84f17 h]
      · by_cases q4 : i < s.1 289
        · rw [if_pos (by omega)] at e0
          by_cases q5 : j < s.1 289
          · rw [if_pos (by omega)] at e9
            rw [if_pos ⟨⟨q1, q4⟩, ⟨q2, q5⟩, q3⟩]
            obtain ⟨w1, e1, X1, f1⟩ := hX.push hB
            have h1 := X1.1
            obtain ⟨T2, c2, r2, h119⟩ := h1.fb.2.2.2.2.2.2.2.2.1
            obtain ⟨w2, e2, cr2, f2⟩ := r_copy h119 h1.cr (by omega)
            have f2 : Fr (rP 119) w1 w2 := f2
            have b1 := h1.fb
            have fb2 : FB w2 H := by
              obtain ⟨a1, a2, a3, a4, a5, a6, a7, a8, a9, a10, a11, a12, a13, a14, a15, a16, a17, a18⟩ := b1
              have rq := f2.Rq (b := 118) (rP_n (by omega))
              exact ⟨by rw [f2.q]; exact a1, by rw [rq]; exact a2, by rw [rq]; exact a3, by rw [rq]; exact a4, by rw [rq]; exact a5, by rw [rq]; exact a6, by rw [rq]; exact a7, by rw [rq]; exact a8, ⟨_, _, _, cr2⟩, exSg a10 f2 (rP_n (by omega)) (rP_n (by omega)), exSg a11 f2 (rP_n (by omega)) (rP_n (by omega)), exSg a12 f2 (rP_n (by omega)) (rP_n (by omega)), exSg a13 f2 (rP_n (by omega)) (rP_n (by omega)), exSg a14 f2 (rP_n (by omega)) (rP_n (by omega)), a15.fr f2 (fun x x1 x2 => rP_n (by omega)), a16.fr f2 (rP_n (by omega)) (rP_n (by omega)), a17.fr f2 (rP_n (by omega)) (rP_n (by omega)), a18.fr f2 (rP_n (by omega))⟩
            have X2 := X1.fut (f2.mo (fun b hb => by unfold rP at hb; unfold fP; omega)) fb2
            have h2 := X2.1
            obtain ⟨w3, e3, cr3, f3⟩ := r_take h2.cr cr2 (by omega) (by show s.1 289 ≤ 16 ∧ s.1 288 ≤ 204; omega) (i := i) (j := j) (by omega) q4 (by omega) (by show j < s.1 289; exact q5) (by show s.1 289 ≤ 16; omega)
            have f3 : Fr (rP 111) w2 w3 := f3
            have cr2' := cr2.fr f3 (fun b b1 b2 => rP_n (by omega))
            have tk := fun k (hk : k < 204 ∨ 284 ≤ k) => tk_keep (r := s.1) (q := s.1) (i := i) (j := j) k hk (by omega) (by omega)
            obtain ⟨w4, e4, cr4, f4⟩ := r_take cr3 cr2' (by omega) (by show gTake s.1 s.1 i j 289 ≤ 16 ∧ gTake s.1 s.1 i j 288 ≤ 204; rw [tk 289 (by omega), tk 288 (by omega)]; omega) (i := j) (j := i) (by omega) (by show j < gTake s.1 s.1 i j 289; rw [tk 289 (by omega)]; exact q5) (by omega) (by show i < s.1 289; exact q4) (by show s.1 289 ≤ 16; omega)
            have f4 : Fr (rP 111) w3 w4 := f4
            have f34 : Fr (fun b => 111 ≤ b ∧ b ≤ 117) w2 w4 := (f3.tr f4).mo (fun b hb => by unfold rP at hb; omega)
            have ov : gOver (gSwp s.1 i j) = gOver s.1 := by
              unfold gSwp
              rw [over_tk (by omega) (by omega), over_tk (by omega) (by omega)]
            have X4 := X2.row (r2 := gSwp s.1 i j) f34 (by rw [ov]; exact cr4)
            refine ⟨_, ?_, X4.fin ((f1.mo (fun b hb => by omega)).tr ((f2.mo (fun b hb => by unfold rP at hb; omega)).tr (f34.mo (fun b hb => by omega))))⟩
            have z1 := h1.s
            have z2 := h1.r5
            have z3 := h1.r6
            have z4 := h1.x111
            have z5 := h1.fb.1
            have z6 := h1.fb.2.2.1
            have z7 := h2.s
            have z8 := h2.r5
            have z9 := h2.r6
            have z10 := h2.x111
            have z11 := fb2.1
            have z12 := fb2.2.2.1
            have z13 := cr2.s0
            have y1 := f3.q
            have y2 := f3.Rq (b := 64) (rP_n (by omega))
            have y3 := f3.Rq (b := 118) (rP_n (by omega))
            have y4 := X4.s64
            have y5 := h119.s0
            have y7 : mS w 136 = (1, 6, 0) := hX.2.2.1.ex.1
            simp (disch := omega) only [p155_0, p155_1, p155_2, p155_5, p155_6, p155_7, p155_10, p155_11, p155_12, p155_15, p155_16, p155_17, p155_20, p155_23, p155_24, p155_25, p155_28, p155_31, p155_32, p155_33, p155_36, p155_37, p155_38, p155_41, p155_42, p155_45, p155_48, p155_49, p155_52, p155_55, p155_56, p155_59, p155_62, p155_63, p155_66, p155_67, p155_68, p155_71, p155_74, p155_75, p155_78, p155_79, p155_82, p155_83, p155_84, p155_87, p155_90, p155_91, p155_94, p155_95, p155_98, p154_0, p154_1, p154_2, p154_5, p154_6, jwd_c, jwd_0, Nat.reduceLeDiff, Nat.reduceEqDiff, Nat.reduceAdd, Nat.reduceSub, Nat.reduceMul, Int.reduceAdd, Int.reduceSub, Int.reduceMul, Int.reduceNeg, Int.reduceEq, Int.reduceLT, Int.reduceLE, jq_ldi_i, jq_ldl_l, jq_lda_a, jq_inc_i, jq_gs_t, jq_gsb_t, jq_gb_t, jq_gr_2, jq_gr_4, jq_gw_2, jq_s_t, jq_b_t, jg_c, jg_n, js_c, js_n, jrm_c, jrm_n, j2_i, j2_l, j2_a, jq_c_i, jq_c_l, jq_c_0, jq_c_n, jwd_le, jw_c0, mS_I, mS_R, mS_J, mN_I, mN_R, mN_J, mR_I, mI_R, mJ_I, mJ_R, mI_J, mR_J, ↓reduceIte, decide_true, or_true, true_or, and_self, false_or, or_false, reduceCtorEq, Bool.false_eq_true, and_false, false_and, eq_self, true_and, and_true, zero_ne, ↓br_lt_t, ↓br_lt_f, ↓br_eq_t, ↓br_eq_f, ↓br_lz_t, ↓br_lz_f, ↓br_ez_t, ↓br_ez_f, ↓br_gz_t, ↓br_gz_f, jw_id, jin_t, jix_t, ↓ite_t, ↓ite_f, cO.s h, cO.r0 h, cO.r1 h, cO.r2 h, cO.r3 h, cO.r4 h, cO.r5 h, cO.r6 h, cO.r7 h, cO.r8 h, cO.r9 h, cO.r10 h, cO.o h, cO.x111 h, cO.x111p h, cO.x111k h, cO.x111t h, cO.x112 h, cO.x114 h, cO.x116 h, cO.x118 h, cO.x84 h, cO.x84r0 h, cO.x84r1 h, cO.x84r2 h, cO.x84r3 h, cO.x84r4 h, cO.x84r5 h, cO.x84r6 h, cO.x84r7 h, cO.x85 h, cO.x87 h, cO.x89 h, cO.x91 h, cO.x93 h, cO.x95 h, cO.x97 h, cO.x99 h, cO.x84f8 h, cO.x84f9 h, cO.x84f10 h, cO.x84f11 h, cO.x84f12 h, cO.x84f14 h, cO.x84f15 h, cO.x84f16 h, cO.x84f17 h, e0, e9, e1, e2, e3, e4, z1, z2, z3, z4, z5, z6, z7, z8, z9, z10, z11, z12, z13, y1, y2, y3, y4, y5, y7]
          · rw [if_neg (by omega)] at e9
            rw [if_neg (fun z => q5 z.2.1.2)]
            refine ⟨_, ?_, N.no⟩
            simp (disch := omega) only [p155_0, p155_1, p155_2, p155_5, p155_6, p155_7, p155_10, p155_11, p155_12, p155_15, p155_16, p155_17, p155_20, p155_23, p155_24, p155_25, p155_28, p155_31, p155_32, p155_33, p155_36, p155_37, p155_38, p155_41, p155_42, p155_45, p155_48, p155_49, p155_52, p155_55, p155_56, p155_59, p155_62, p155_63, p155_66, p155_67, p155_68, p155_71, p155_74, p155_75, p155_78, p155_79, p155_82, p155_83, p155_84, p155_87, p155_90, p155_91, p155_94, p155_95, p155_98, p153_0, p153_1, p153_2, p153_5, p153_6, jwd_c, jwd_0, Nat.reduceLeDiff, Nat.reduceEqDiff, Nat.reduceAdd, Nat.reduceSub, Nat.reduceMul, Int.reduceAdd, Int.reduceSub, Int.reduceMul, Int.reduceNeg, Int.reduceEq, Int.reduceLT, Int.reduceLE, jq_ldi_i, jq_ldl_l, jq_lda_a, jq_inc_i, jq_gs_t, jq_gsb_t, jq_gb_t, jq_gr_2, jq_gr_4, jq_gw_2, jq_s_t, jq_b_t, jg_c, jg_n, js_c, js_n, jrm_c, jrm_n, j2_i, j2_l, j2_a, jq_c_i, jq_c_l, jq_c_0, jq_c_n, jwd_le, jw_c0, mS_I, mS_R, mS_J, mN_I, mN_R, mN_J, mR_I, mI_R, mJ_I, mJ_R, mI_J, mR_J, ↓reduceIte, decide_true, or_true, true_or, and_self, false_or, or_false, reduceCtorEq, Bool.false_eq_true, and_false, false_and, eq_self, true_and, and_true, zero_ne, ↓br_lt_t, ↓br_lt_f, ↓br_eq_t, ↓br_eq_f, ↓br_lz_t, ↓br_lz_f, ↓br_ez_t, ↓br_ez_f, ↓br_gz_t, ↓br_gz_f, jw_id, jin_t, jix_t, ↓ite_t, ↓ite_f, cO.s h, cO.r0 h, cO.r1 h, cO.r2 h, cO.r3 h, cO.r4 h, cO.r5 h, cO.r6 h, cO.r7 h, cO.r8 h, cO.r9 h, cO.r10 h, cO.o h, cO.x111 h, cO.x111p h, cO.x111k h, cO.x111t h, cO.x112 h, cO.x114 h, cO.x116 h, cO.x118 h, cO.x84 h, cO.x84r0 h, cO.x84r1 h, cO.x84r2 h, cO.x84r3 h, cO.x84r4 h, cO.x84r5 h, cO.x84r6 h, cO.x84r7 h, cO.x85 h, cO.x87 h, cO.x89 h, cO.x91 h, cO.x93 h, cO.x95 h, cO.x97 h, cO.x99 h, cO.x84f8 h, cO.x84f9 h, cO.x84f10 h, cO.x84f11 h, cO.x84f12 h, cO.x84f14 h, cO.x84f15 h, cO.x84f16 h, cO.x84f17 h, e0, e9]
        · rw [if_neg (by omega)] at e0
          rw [if_neg (fun z => q4 z.1.2)]
          refine ⟨_, ?_, N.no⟩
          simp (disch := omega) only [p155_0, p155_1, p155_2, p155_5, p155_6, p155_7, p155_10, p155_11, p155_12, p155_15, p155_16, p155_17, p155_20, p155_23, p155_24, p155_25, p155_28, p155_31, p155_32, p155_33, p155_36, p155_37, p155_38, p155_41, p155_42, p155_45, p155_48, p155_49, p155_52, p155_55, p155_56, p155_59, p155_62, p155_63, p155_66, p155_67, p155_68, p155_71, p155_74, p155_75, p155_78, p155_79, p155_82, p155_83, p155_84, p155_87, p155_90, p155_91, p155_94, p155_95, p155_98, p153_0, p153_1, p153_2, p153_5, p153_6, jwd_c, jwd_0, Nat.reduceLeDiff, Nat.reduceEqDiff, Nat.reduceAdd, Nat.reduceSub, Nat.reduceMul, Int.reduceAdd, Int.reduceSub, Int.reduceMul, Int.reduceNeg, Int.reduceEq, Int.reduceLT, Int.reduceLE, jq_ldi_i, jq_ldl_l, jq_lda_a, jq_inc_i, jq_gs_t, jq_gsb_t, jq_gb_t, jq_gr_2, jq_gr_4, jq_gw_2, jq_s_t, jq_b_t, jg_c, jg_n, js_c, js_n, jrm_c, jrm_n, j2_i, j2_l, j2_a, jq_c_i, jq_c_l, jq_c_0, jq_c_n, jwd_le, jw_c0, mS_I, mS_R, mS_J, mN_I, mN_R, mN_J, mR_I, mI_R, mJ_I, mJ_R, mI_J, mR_J, ↓reduceIte, decide_true, or_true, true_or, and_self, false_or, or_false, reduceCtorEq, Bool.false_eq_true, and_false, false_and, eq_self, true_and, and_true, zero_ne, ↓br_lt_t, ↓br_lt_f, ↓br_eq_t, ↓br_eq_f, ↓br_lz_t, ↓br_lz_f, ↓br_ez_t, ↓br_ez_f, ↓br_gz_t, ↓br_gz_f, jw_id, jin_t, jix_t, ↓ite_t, ↓ite_f, cO.s h, cO.r0 h, cO.r1 h, cO.r2 h, cO.r3 h, cO.r4 h, cO.r5 h, cO.r6 h, cO.r7 h, cO.r8 h, cO.r9 h, cO.r10 h, cO.o h, cO.x111 h, cO.x111p h, cO.x111k h, cO.x111t h, cO.x112 h, cO.x114 h, cO.x116 h, cO.x118 h, cO.x84 h, cO.x84r0 h, cO.x84r1 h, cO.x84r2 h, cO.x84r3 h, cO.x84r4 h, cO.x84r5 h, cO.x84r6 h, cO.x84r7 h, cO.x85 h, cO.x87 h, cO.x89 h, cO.x91 h, cO.x93 h, cO.x95 h, cO.x97 h, cO.x99 h, cO.x84f8 h, cO.x84f9 h, cO.x84f10 h, cO.x84f11 h, cO.x84f12 h, cO.x84f14 h, cO.x84f15 h, cO.x84f16 h, cO.x84f17 h, e0]
    · rw [if_neg (fun z => q2 z.2.1.1)]
      refine ⟨_, ?_, N.no⟩
      simp (disch := omega) only [p155_0, p155_1, p155_2, p155_5, p155_6, p155_7, p155_10, p155_11, p155_12, p155_15, p155_16, p155_17, p155_20, p155_23, p155_24, p155_25, p155_28, p155_31, p155_32, p155_33, p155_36, p155_37, p155_38, p155_41, p155_42, p155_45, p155_48, p155_49, p155_52, p155_55, p155_56, p155_59, p155_62, p155_63, p155_66, p155_67, p155_68, p155_71, p155_74, p155_75, p155_78, p155_79, p155_82, p155_83, p155_84, p155_87, p155_90, p155_91, p155_94, p155_95, p155_98, p153_0, p153_1, p153_2, p153_5, p153_6, jwd_c, jwd_0, Nat.reduceLeDiff, Nat.reduceEqDiff, Nat.reduceAdd, Nat.reduceSub, Nat.reduceMul, Int.reduceAdd, Int.reduceSub, Int.reduceMul, Int.reduceNeg, Int.reduceEq, Int.reduceLT, Int.reduceLE, jq_ldi_i, jq_ldl_l, jq_lda_a, jq_inc_i, jq_gs_t, jq_gsb_t, jq_gb_t, jq_gr_2, jq_gr_4, jq_gw_2, jq_s_t, jq_b_t, jg_c, jg_n, js_c, js_n, jrm_c, jrm_n, j2_i, j2_l, j2_a, jq_c_i, jq_c_l, jq_c_0, jq_c_n, jwd_le, jw_c0, mS_I, mS_R, mS_J, mN_I, mN_R, mN_J, mR_I, mI_R, mJ_I, mJ_R, mI_J, mR_J, ↓reduceIte, decide_true, or_true, true_or, and_self, false_or, or_false, reduceCtorEq, Bool.false_eq_true, and_false, false_and, eq_self, true_and, and_true, zero_ne, ↓br_lt_t, ↓br_lt_f, ↓br_eq_t, ↓br_eq_f, ↓br_lz_t, ↓br_lz_f, ↓br_ez_t, ↓br_ez_f, ↓br_gz_t, ↓br_gz_f, jw_id, jin_t, jix_t, ↓ite_t, ↓ite_f, cO.s h, cO.r0 h, cO.r1 h, cO.r2 h, cO.r3 h, cO.r4 h, cO.r5 h, cO.r6 h, cO.r7 h, cO.r8 h, cO.r9 h, cO.r10 h, cO.o h, cO.x111 h, cO.x111p h, cO.x111k h, cO.x111t h, cO.x112 h, cO.x114 h, cO.x116 h, cO.x118 h, cO.x84 h, cO.x84r0 h, cO.x84r1 h, cO.x84r2 h, cO.x84r3 h, cO.x84r4 h, cO.x84r5 h, cO.x84r6 h, cO.x84r7 h, cO.x85 h, cO.x87 h, cO.x89 h, cO.x91 h, cO.x93 h, cO.x95 h, cO.x97 h, cO.x99 h, cO.x84f8 h, cO.x84f9 h, cO.x84f10 h, cO.x84f11 h, cO.x84f12 h, cO.x84f14 h, cO.x84f15 h, cO.x84f16 h, cO.x84f17 h]
  · rw [if_neg (fun z => q1 z.1.1)]
    refine ⟨_, ?_, N.no⟩
    simp (disch := omega) only [p155_0, p155_1, p155_2, p155_5, p155_6, p155_7, p155_10, p155_11, p155_12, p155_15, p155_16, p155_17, p155_20, p155_23, p155_24, p155_25, p155_28, p155_31, p155_32, p155_33, p155_36, p155_37, p155_38, p155_41, p155_42, p155_45, p155_48, p155_49, p155_52, p155_55, p155_56, p155_59, p155_62, p155_63, p155_66, p155_67, p155_68, p155_71, p155_74, p155_75, p155_78, p155_79, p155_82, p155_83, p155_84, p155_87, p155_90, p155_91, p155_94, p155_95, p155_98, p153_0, p153_1, p153_2, p153_5, p153_6, jwd_c, jwd_0, Nat.reduceLeDiff, Nat.reduceEqDiff, Nat.reduceAdd, Nat.reduceSub, Nat.reduceMul, Int.reduceAdd, Int.reduceSub, Int.reduceMul, Int.reduceNeg, Int.reduceEq, Int.reduceLT, Int.reduceLE, jq_ldi_i, jq_ldl_l, jq_lda_a, jq_inc_i, jq_gs_t, jq_gsb_t, jq_gb_t, jq_gr_2, jq_gr_4, jq_gw_2, jq_s_t, jq_b_t, jg_c, jg_n, js_c, js_n, jrm_c, jrm_n, j2_i, j2_l, j2_a, jq_c_i, jq_c_l, jq_c_0, jq_c_n, jwd_le, jw_c0, mS_I, mS_R, mS_J, mN_I, mN_R, mN_J, mR_I, mI_R, mJ_I, mJ_R, mI_J, mR_J, ↓reduceIte, decide_true, or_true, true_or, and_self, false_or, or_false, reduceCtorEq, Bool.false_eq_true, and_false, false_and, eq_self, true_and, and_true, zero_ne, ↓br_lt_t, ↓br_lt_f, ↓br_eq_t, ↓br_eq_f, ↓br_lz_t, ↓br_lz_f, ↓br_ez_t, ↓br_ez_f, ↓br_gz_t, ↓br_gz_f, jw_id, jin_t, jix_t, ↓ite_t, ↓ite_f, cO.s h, cO.r0 h, cO.r1 h, cO.r2 h, cO.r3 h, cO.r4 h, cO.r5 h, cO.r6 h, cO.r7 h, cO.r8 h, cO.r9 h, cO.r10 h, cO.o h, cO.x111 h, cO.x111p h, cO.x111k h, cO.x111t h, cO.x112 h, cO.x114 h, cO.x116 h, cO.x118 h, cO.x84 h, cO.x84r0 h, cO.x84r1 h, cO.x84r2 h, cO.x84r3 h, cO.x84r4 h, cO.x84r5 h, cO.x84r6 h, cO.x84r7 h, cO.x85 h, cO.x87 h, cO.x89 h, cO.x91 h, cO.x93 h, cO.x95 h, cO.x97 h, cO.x99 h, cO.x84f8 h, cO.x84f9 h, cO.x84f10 h, cO.x84f11 h, cO.x84f12 h, cO.x84f14 h, cO.x84f15 h, cO.x84f16 h, cO.x84f17 h]
theorem c_dance (hX : cX w H s Bt) (hB : Bt < 100000) (b : fB H s.1 S s.1 g B) {n : Int} (x1 : -2147483648 ≤ n) (x2 : n < 2147483648) : ∃ u, rn 147 (0, [(0, jvr 64), (1, .inl n)], [], w) = some (some (.inl (A37 H S g s n).1), u) ∧ qA w u H (A37 H S g s n).2.2 (Bt + 1) (A37 H S g s n).2.1 := by
  have h := hX.1
  have k6 := b.1.2.1
  have ri := b.2.2.1
  have h16 := ri.1.1
  have N := (hX.mo (Bt2 := Bt + 1) (by omega))
  have c9 := cr_closed h.cr
  have ov := over_b s.1
  unfold A37
  by_cases q1 : 1 ≤ n
  · by_cases q2 : n ≤ 20
    · rw [if_pos ⟨q1, q2⟩]
      by_cases q3 : gOver s.1 = 0
      · rw [if_pos q3]
        obtain ⟨w1, e1, X1, f1⟩ := hX.push hB
        have h1 := X1.1
        obtain ⟨w2, e2, F2, h2, f2⟩ := h1.beg b
        have X2 := X1.fut f2 F2.1.fb
        obtain ⟨w3, e3, F3, Z3, f3⟩ := f_run b.1 (by omega) (by omega) b.s1 (t := n) (by omega) (by omega) F2 (zb0 b.i b.2.2.2.1.1 (Or.inl rfl)) (by have := b.2.2.2.1; omega)
        have f3' : Fr fP w2 w3 := f3.mo (fun b hb => by unfold fQ at hb; unfold fP; omega)
        have X3 := X2.fut f3' F3.1.fb
        have eD : gFr H (H 0 6) S (-1) n.toNat (gZ0 s.1 g) = gDn H S g s.1 n := rfl
        rw [eD] at F3 Z3
        generalize gDn H S g s.1 n = z at *
        have z16 := Z3.1.1.1
        have cr119 := F3.1.cr
        obtain ⟨w4, e4, cr4, f4⟩ := r_copy X3.1.cr cr119 (by omega)
        have f4 : Fr (rP 111) w3 w4 := f4
        have f4' : Fr (fun b => 111 ≤ b ∧ b ≤ 117) w3 w4 := f4.mo (fun b hb => by unfold rP at hb; omega)
        have X4 := X3.row f4' cr4
        have fA : Fr (fun b => 111 ≤ b ∧ b ≤ 237) w w4 := (((f1.mo (fun b hb => by omega)).tr (f2.mo (fun b hb => by unfold fP at hb; omega))).tr (f3'.mo (fun b hb => by unfold fP at hb; omega))).tr (f4'.mo (fun b hb => by omega))
        have e5 := cr_n cr4 (by omega)
        refine ⟨_, ?_, X4.fin fA⟩
        have z1 := h1.s
        have z2 := h1.r5
        have z3 := h1.r6
        have z4 := h2.s
        have z5 := h2.r6
        have z6 := X3.1.s
        have z7 := X3.1.r5
        have z8 := X3.1.r6
        have z9 := X4.1.s
        have z10 := X4.1.r5
        have z11 := X4.1.x111
        have z12 := X4.1.x111k
        have z13 := h1.fb.1
        have z14 := F2.s0
        have z15 := F3.s0
        have z16' := F3.1.r1
        have z17 := X3.1.x111
        have z18 := h1.x111
        have y7 : mS w 136 = (1, 6, 0) := hX.2.2.1.ex.1
        have z19 := X4.1.x114
        simp (disch := omega) only [p147_0, p147_1, p147_4, p147_7, p147_8, p147_9, p147_12, p147_13, p147_14, p147_15, p147_18, p147_19, p147_21, p147_24, p147_25, p147_26, p147_29, p147_30, p147_31, p147_34, p147_37, p147_40, p147_41, p147_42, p147_45, p147_46, p147_47, p147_50, p147_51, p147_54, p147_57, p147_58, p147_61, p147_62, p147_65, p147_68, p147_69, p147_72, p147_73, p147_76, p147_77, p147_80, p147_81, p147_84, p147_87, p147_90, p147_91, p147_92, p147_95, p147_98, p147_101, p147_104, p62_0, p62_1, p62_2, p62_5, p62_6, jwd_c, jwd_0, Nat.reduceLeDiff, Nat.reduceEqDiff, Nat.reduceAdd, Nat.reduceSub, Nat.reduceMul, Int.reduceAdd, Int.reduceSub, Int.reduceMul, Int.reduceNeg, Int.reduceEq, Int.reduceLT, Int.reduceLE, jq_ldi_i, jq_ldl_l, jq_lda_a, jq_inc_i, jq_gs_t, jq_gsb_t, jq_gb_t, jq_gr_2, jq_gr_4, jq_gw_2, jq_s_t, jq_b_t, jg_c, jg_n, js_c, js_n, jrm_c, jrm_n, j2_i, j2_l, j2_a, jq_c_i, jq_c_l, jq_c_0, jq_c_n, jwd_le, jw_c0, mS_I, mS_R, mS_J, mN_I, mN_R, mN_J, mR_I, mI_R, mJ_I, mJ_R, mI_J, mR_J, ↓reduceIte, decide_true, or_true, true_or, and_self, false_or, or_false, reduceCtorEq, Bool.false_eq_true, and_false, false_and, eq_self, true_and, and_true, zero_ne, ↓br_lt_t, ↓br_lt_f, ↓br_eq_t, ↓br_eq_f, ↓br_lz_t, ↓br_lz_f, ↓br_ez_t, ↓br_ez_f, ↓br_gz_t, ↓br_gz_f, jw_id, jin_t, jix_t, ↓ite_t, ↓ite_f, cO.s h, cO.r0 h, cO.r1 h, cO.r2 h, cO.r3 h, cO.r4 h, cO.r5 h, cO.r6 h, cO.r7 h, cO.r8 h, cO.r9 h, cO.r10 h, cO.o h, cO.x111 h, cO.x111p h, cO.x111k h, cO.x111t h, cO.x112 h, cO.x114 h, cO.x116 h, cO.x118 h, cO.x84 h, cO.x84r0 h, cO.x84r1 h, cO.x84r2 h, cO.x84r3 h, cO.x84r4 h, cO.x84r5 h, cO.x84r6 h, cO.x84r7 h, cO.x85 h, cO.x87 h, cO.x89 h, cO.x91 h, cO.x93 h, cO.x95 h, cO.x97 h, cO.x99 h, cO.x84f8 h, cO.x84f9 h, cO.x84f10 h, cO.x84f11 h, cO.x84f12 h, cO.x84f14 h, cO.x84f15 h, cO.x84f16 h, cO.x84f17 h, c9, e1, e2, e3, e4, e5, z1, z2, z3, z4, z5, z6, z7, z8, z9, z10, z11, z12, z13, z14, z15, z16', z17, z18, z19, y7]
      · rw [if_neg q3]
        refine ⟨_, ?_, N.no⟩
        simp (disch := omega) only [p147_0, p147_1, p147_4, p147_7, p147_8, p147_9, p147_12, p147_13, p147_14, p147_15, p147_18, p147_19, p147_21, p147_24, p147_25, p147_26, p147_29, p147_30, p147_31, p147_34, p147_37, p147_40, p147_41, p147_42, p147_45, p147_46, p147_47, p147_50, p147_51, p147_54, p147_57, p147_58, p147_61, p147_62, p147_65, p147_68, p147_69, p147_72, p147_73, p147_76, p147_77, p147_80, p147_81, p147_84, p147_87, p147_90, p147_91, p147_92, p147_95, p147_98, p147_101, p147_104, p19_0, p19_1, p19_2, p19_5, p19_6, jwd_c, jwd_0, Nat.reduceLeDiff, Nat.reduceEqDiff, Nat.reduceAdd, Nat.reduceSub, Nat.reduceMul, Int.reduceAdd, Int.reduceSub, Int.reduceMul, Int.reduceNeg, Int.reduceEq, Int.reduceLT, Int.reduceLE, jq_ldi_i, jq_ldl_l, jq_lda_a, jq_inc_i, jq_gs_t, jq_gsb_t, jq_gb_t, jq_gr_2, jq_gr_4, jq_gw_2, jq_s_t, jq_b_t, jg_c, jg_n, js_c, js_n, jrm_c, jrm_n, j2_i, j2_l, j2_a, jq_c_i, jq_c_l, jq_c_0, jq_c_n, jwd_le, jw_c0, mS_I, mS_R, mS_J, mN_I, mN_R, mN_J, mR_I, mI_R, mJ_I, mJ_R, mI_J, mR_J, ↓reduceIte, decide_true, or_true, true_or, and_self, false_or, or_false, reduceCtorEq, Bool.false_eq_true, and_false, false_and, eq_self, true_and, and_true, zero_ne, ↓br_lt_t, ↓br_lt_f, ↓br_eq_t, ↓br_eq_f, ↓br_lz_t, ↓br_lz_f, ↓br_ez_t, ↓br_ez_f, ↓br_gz_t, ↓br_gz_f, jw_id, jin_t, jix_t, ↓ite_t, ↓ite_f, cO.s h, cO.r0 h, cO.r1 h, cO.r2 h, cO.r3 h, cO.r4 h, cO.r5 h, cO.r6 h, cO.r7 h, cO.r8 h, cO.r9 h, cO.r10 h, cO.o h, cO.x111 h, cO.x111p h, cO.x111k h, cO.x111t h, cO.x112 h, cO.x114 h, cO.x116 h, cO.x118 h, cO.x84 h, cO.x84r0 h, cO.x84r1 h, cO.x84r2 h, cO.x84r3 h, cO.x84r4 h, cO.x84r5 h, cO.x84r6 h, cO.x84r7 h, cO.x85 h, cO.x87 h, cO.x89 h, cO.x91 h, cO.x93 h, cO.x95 h, cO.x97 h, cO.x99 h, cO.x84f8 h, cO.x84f9 h, cO.x84f10 h, cO.x84f11 h, cO.x84f12 h, cO.x84f14 h, cO.x84f15 h, cO.x84f16 h, cO.x84f17 h, c9]
    · rw [if_neg (fun z => q2 z.2)]
      refine ⟨_, ?_, N.no⟩
      simp (disch := omega) only [p147_0, p147_1, p147_4, p147_7, p147_8, p147_9, p147_12, p147_13, p147_14, p147_15, p147_18, p147_19, p147_21, p147_24, p147_25, p147_26, p147_29, p147_30, p147_31, p147_34, p147_37, p147_40, p147_41, p147_42, p147_45, p147_46, p147_47, p147_50, p147_51, p147_54, p147_57, p147_58, p147_61, p147_62, p147_65, p147_68, p147_69, p147_72, p147_73, p147_76, p147_77, p147_80, p147_81, p147_84, p147_87, p147_90, p147_91, p147_92, p147_95, p147_98, p147_101, p147_104, p19_0, p19_1, p19_2, p19_5, p19_6, jwd_c, jwd_0, Nat.reduceLeDiff, Nat.reduceEqDiff, Nat.reduceAdd, Nat.reduceSub, Nat.reduceMul, Int.reduceAdd, Int.reduceSub, Int.reduceMul, Int.reduceNeg, Int.reduceEq, Int.reduceLT, Int.reduceLE, jq_ldi_i, jq_ldl_l, jq_lda_a, jq_inc_i, jq_gs_t, jq_gsb_t, jq_gb_t, jq_gr_2, jq_gr_4, jq_gw_2, jq_s_t, jq_b_t, jg_c, jg_n, js_c, js_n, jrm_c, jrm_n, j2_i, j2_l, j2_a, jq_c_i, jq_c_l, jq_c_0, jq_c_n, jwd_le, jw_c0, mS_I, mS_R, mS_J, mN_I, mN_R, mN_J, mR_I, mI_R, mJ_I, mJ_R, mI_J, mR_J, ↓reduceIte, decide_true, or_true, true_or, and_self, false_or, or_false, reduceCtorEq, Bool.false_eq_true, and_false, false_and, eq_self, true_and, and_true, zero_ne, ↓br_lt_t, ↓br_lt_f, ↓br_eq_t, ↓br_eq_f, ↓br_lz_t, ↓br_lz_f, ↓br_ez_t, ↓br_ez_f, ↓br_gz_t, ↓br_gz_f, jw_id, jin_t, jix_t, ↓ite_t, ↓ite_f, cO.s h, cO.r0 h, cO.r1 h, cO.r2 h, cO.r3 h, cO.r4 h, cO.r5 h, cO.r6 h, cO.r7 h, cO.r8 h, cO.r9 h, cO.r10 h, cO.o h, cO.x111 h, cO.x111p h, cO.x111k h, cO.x111t h, cO.x112 h, cO.x114 h, cO.x116 h, cO.x118 h, cO.x84 h, cO.x84r0 h, cO.x84r1 h, cO.x84r2 h, cO.x84r3 h, cO.x84r4 h, cO.x84r5 h, cO.x84r6 h, cO.x84r7 h, cO.x85 h, cO.x87 h, cO.x89 h, cO.x91 h, cO.x93 h, cO.x95 h, cO.x97 h, cO.x99 h, cO.x84f8 h, cO.x84f9 h, cO.x84f10 h, cO.x84f11 h, cO.x84f12 h, cO.x84f14 h, cO.x84f15 h, cO.x84f16 h, cO.x84f17 h]
  · rw [if_neg (fun z => q1 z.1)]
    refine ⟨_, ?_, N.no⟩
    simp (disch := omega) only [p147_0, p147_1, p147_4, p147_7, p147_8, p147_9, p147_12, p147_13, p147_14, p147_15, p147_18, p147_19, p147_21, p147_24, p147_25, p147_26, p147_29, p147_30, p147_31, p147_34, p147_37, p147_40, p147_41, p147_42, p147_45, p147_46, p147_47, p147_50, p147_51, p147_54, p147_57, p147_58, p147_61, p147_62, p147_65, p147_68, p147_69, p147_72, p147_73, p147_76, p147_77, p147_80, p147_81, p147_84, p147_87, p147_90, p147_91, p147_92, p147_95, p147_98, p147_101, p147_104, p19_0, p19_1, p19_2, p19_5, p19_6, jwd_c, jwd_0, Nat.reduceLeDiff, Nat.reduceEqDiff, Nat.reduceAdd, Nat.reduceSub, Nat.reduceMul, Int.reduceAdd, Int.reduceSub, Int.reduceMul, Int.reduceNeg, Int.reduceEq, Int.reduceLT, Int.reduceLE, jq_ldi_i, jq_ldl_l, jq_lda_a, jq_inc_i, jq_gs_t, jq_gsb_t, jq_gb_t, jq_gr_2, jq_gr_4, jq_gw_2, jq_s_t, jq_b_t, jg_c, jg_n, js_c, js_n, jrm_c, jrm_n, j2_i, j2_l, j2_a, jq_c_i, jq_c_l, jq_c_0, jq_c_n, jwd_le, jw_c0, mS_I, mS_R, mS_J, mN_I, mN_R, mN_J, mR_I, mI_R, mJ_I, mJ_R, mI_J, mR_J, ↓reduceIte, decide_true, or_true, true_or, and_self, false_or, or_false, reduceCtorEq, Bool.false_eq_true, and_false, false_and, eq_self, true_and, and_true, zero_ne, ↓br_lt_t, ↓br_lt_f, ↓br_eq_t, ↓br_eq_f, ↓br_lz_t, ↓br_lz_f, ↓br_ez_t, ↓br_ez_f, ↓br_gz_t, ↓br_gz_f, jw_id, jin_t, jix_t, ↓ite_t, ↓ite_f, cO.s h, cO.r0 h, cO.r1 h, cO.r2 h, cO.r3 h, cO.r4 h, cO.r5 h, cO.r6 h, cO.r7 h, cO.r8 h, cO.r9 h, cO.r10 h, cO.o h, cO.x111 h, cO.x111p h, cO.x111k h, cO.x111t h, cO.x112 h, cO.x114 h, cO.x116 h, cO.x118 h, cO.x84 h, cO.x84r0 h, cO.x84r1 h, cO.x84r2 h, cO.x84r3 h, cO.x84r4 h, cO.x84r5 h, cO.x84r6 h, cO.x84r7 h, cO.x85 h, cO.x87 h, cO.x89 h, cO.x91 h, cO.x93 h, cO.x95 h, cO.x97 h, cO.x99 h, cO.x84f8 h, cO.x84f9 h, cO.x84f10 h, cO.x84f11 h, cO.x84f12 h, cO.x84f14 h, cO.x84f15 h, cO.x84f16 h, cO.x84f17 h]
theorem gCp_q {r q : Nat → Int} : rQ r (gCp r q) := fun k hk => if_pos hk
theorem cr_gCp {a T : Nat} {q o : Nat → Int} (h : CR w a T (gOver q) q) (h8 : q 288 ≤ 204) (h9 : q 289 ≤ 16) : CR w a T (gOver (gCp q o)) (gCp q o) := by
  rw [gCp_q.ov]
  exact gCp_q.cr h h8 h9
theorem c_undo (hX : cX w H s Bt) (hB : Bt < 100000) (rq : ∀ i, i < s.2.1 → RI H B (s.2.2.1 i)) : ∃ u, rn 159 (0, [(0, jvr 64)], [], w) = some (some (.inl (A43 s).1), u) ∧ qA w u H (A43 s).2.2 Bt (A43 s).2.1 := by
  have h := hX.1
  have hS := hX.2.2.1
  have ex := hS.ex
  have x1 := ex.1
  have x2 := ex.2.1
  unfold A43
  by_cases q : s.2.1 = 0
  · rw [if_pos q]
    have e1 := sh_noshow (w := w) (s := 136) (k := s.2.1) (i := (s.2.1 : Int) - 1) (o := some 111) x1 x2 (by omega) (by omega) (by omega) (by omega)
    refine ⟨_, ?_, hX.no⟩
    simp (disch := omega) only [p159_0, p159_1, p159_4, p159_5, p159_8, p159_11, p159_14, p159_15, p159_18, p159_21, p159_22, p159_24, p159_27, p153_0, p153_1, p153_2, p153_5, p153_6, p160_0, p160_1, p160_2, p160_5, p160_6, p160_7, p160_8, p160_11, p160_14, p160_15, p160_16, p160_17i, p160_17a, p160_18, p160_21, p160_22, p160_23, p160_26, p160_27, jwd_c, jwd_0, Nat.reduceLeDiff, Nat.reduceEqDiff, Nat.reduceAdd, Nat.reduceSub, Nat.reduceMul, Int.reduceAdd, Int.reduceSub, Int.reduceMul, Int.reduceNeg, Int.reduceEq, Int.reduceLT, Int.reduceLE, jq_ldi_i, jq_ldl_l, jq_lda_a, jq_inc_i, jq_gs_t, jq_gsb_t, jq_gb_t, jq_gr_2, jq_gr_4, jq_gw_2, jq_s_t, jq_b_t, jg_c, jg_n, js_c, js_n, jrm_c, jrm_n, j2_i, j2_l, j2_a, jq_c_i, jq_c_l, jq_c_0, jq_c_n, jwd_le, jw_c0, mS_I, mS_R, mS_J, mN_I, mN_R, mN_J, mR_I, mI_R, mJ_I, mJ_R, mI_J, mR_J, ↓reduceIte, decide_true, or_true, true_or, and_self, false_or, or_false, reduceCtorEq, Bool.false_eq_true, and_false, false_and, eq_self, true_and, and_true, zero_ne, ↓br_lt_t, ↓br_lt_f, ↓br_eq_t, ↓br_eq_f, ↓br_lz_t, ↓br_lz_f, ↓br_ez_t, ↓br_ez_f, ↓br_gz_t, ↓br_gz_f, jw_id, jin_t, jix_t, ↓ite_t, ↓ite_f, cO.s h, cO.r0 h, cO.r1 h, cO.r2 h, cO.r3 h, cO.r4 h, cO.r5 h, cO.r6 h, cO.r7 h, cO.r8 h, cO.r9 h, cO.r10 h, cO.o h, cO.x111 h, cO.x111p h, cO.x111k h, cO.x111t h, cO.x112 h, cO.x114 h, cO.x116 h, cO.x118 h, cO.x84 h, cO.x84r0 h, cO.x84r1 h, cO.x84r2 h, cO.x84r3 h, cO.x84r4 h, cO.x84r5 h, cO.x84r6 h, cO.x84r7 h, cO.x85 h, cO.x87 h, cO.x89 h, cO.x91 h, cO.x93 h, cO.x95 h, cO.x97 h, cO.x99 h, cO.x84f8 h, cO.x84f9 h, cO.x84f10 h, cO.x84f11 h, cO.x84f12 h, cO.x84f14 h, cO.x84f15 h, cO.x84f16 h, cO.x84f17 h, x1, x2, e1]
  · rw [if_neg q]
    obtain ⟨w1, e1, c1, f1⟩ := sh_show hS h.cr (by omega) (by omega) hB (by omega) (i := (s.2.1 : Int) - 1) (by omega) (by omega)
    rw [show ((s.2.1 : Int) - 1).toNat = s.2.1 - 1 by omega] at c1
    have f1 : Fr (rP 111) w w1 := f1
    have f1' : Fr (fun b => 111 ≤ b ∧ b ≤ 117) w w1 := f1.mo (fun b hb => by unfold rP at hb; omega)
    have rr := rq (s.2.1 - 1) (by omega)
    have r16 := rr.1.1
    have X1 := hX.row f1' (cr_gCp (o := s.1) c1 (by omega) (by omega))
    have y1 := f1.q
    have y2 : mI w1 136 = mI w 136 := f1.Iq (rP_n (by omega))
    have X2 : cX (setI w1 136 2 ((s.2.1 : Int) - 1)) H (gCp (s.2.2.1 (s.2.1 - 1)) s.1, s.2.1 - 1, s.2.2) Bt := by
      obtain ⟨a1, a2, a3, a4⟩ := X1
      have f2 : Fr (fun b => b = 136) w1 (setI w1 136 2 ((s.2.1 : Int) - 1)) := Fr.I rfl
      refine ⟨a1.all f2 (fun b hb => by omega), a2.fr f2 (fun b b1 b2 => by omega), ?_, a4.fr f2 (fun b b1 b2 => by omega)⟩
      obtain ⟨bt, h1, h2, h3, h4, h5, h6, h7, h8, h9, h10⟩ := a3
      refine ⟨bt, h1, h2, h3, h4, by rw [mI_nk (by omega)]; exact h5, h6, ?_, by show s.2.1 - 1 ≤ 10; omega, fun i hi => ?_, fun i hi => ?_⟩
      · rw [mI_s]
        show (s.2.1 : Int) - 1 = ((s.2.1 - 1 : Nat) : Int)
        omega
      · obtain ⟨T2, c2, r2, h⟩ := h9 i hi
        exact ⟨T2, c2, r2, h.fr f2 (fun b b1 b2 => by omega)⟩
      · have hi2 : i < s.2.1 - 1 := hi
        exact (h10 i (by show i < s.2.1; omega)).fr f2 (fun b b1 b2 => by omega)
    have fA : Fr (fun b => 111 ≤ b ∧ b ≤ 237) w (setI w1 136 2 ((s.2.1 : Int) - 1)) := (f1'.mo (fun b hb => by omega)).tr (Fr.I ⟨by omega, by omega⟩)
    refine ⟨_, ?_, X2.fin fA⟩
    have y3 := X2.s64
    have y4 : mS w1 136 = (1, 6, 0) := by rw [y1]; exact x1
    have y5 := X1.s64
    simp (disch := omega) only [p159_0, p159_1, p159_4, p159_5, p159_8, p159_11, p159_14, p159_15, p159_18, p159_21, p159_22, p159_24, p159_27, p154_0, p154_1, p154_2, p154_5, p154_6, p160_0, p160_1, p160_2, p160_5, p160_6, p160_7, p160_8, p160_11, p160_14, p160_15, p160_16, p160_17i, p160_17a, p160_18, p160_21, p160_22, p160_23, p160_26, p160_27, jwd_c, jwd_0, Nat.reduceLeDiff, Nat.reduceEqDiff, Nat.reduceAdd, Nat.reduceSub, Nat.reduceMul, Int.reduceAdd, Int.reduceSub, Int.reduceMul, Int.reduceNeg, Int.reduceEq, Int.reduceLT, Int.reduceLE, jq_ldi_i, jq_ldl_l, jq_lda_a, jq_inc_i, jq_gs_t, jq_gsb_t, jq_gb_t, jq_gr_2, jq_gr_4, jq_gw_2, jq_s_t, jq_b_t, jg_c, jg_n, js_c, js_n, jrm_c, jrm_n, j2_i, j2_l, j2_a, jq_c_i, jq_c_l, jq_c_0, jq_c_n, jwd_le, jw_c0, mS_I, mS_R, mS_J, mN_I, mN_R, mN_J, mR_I, mI_R, mJ_I, mJ_R, mI_J, mR_J, ↓reduceIte, decide_true, or_true, true_or, and_self, false_or, or_false, reduceCtorEq, Bool.false_eq_true, and_false, false_and, eq_self, true_and, and_true, zero_ne, ↓br_lt_t, ↓br_lt_f, ↓br_eq_t, ↓br_eq_f, ↓br_lz_t, ↓br_lz_f, ↓br_ez_t, ↓br_ez_f, ↓br_gz_t, ↓br_gz_f, jw_id, jin_t, jix_t, ↓ite_t, ↓ite_f, cO.s h, cO.r0 h, cO.r1 h, cO.r2 h, cO.r3 h, cO.r4 h, cO.r5 h, cO.r6 h, cO.r7 h, cO.r8 h, cO.r9 h, cO.r10 h, cO.o h, cO.x111 h, cO.x111p h, cO.x111k h, cO.x111t h, cO.x112 h, cO.x114 h, cO.x116 h, cO.x118 h, cO.x84 h, cO.x84r0 h, cO.x84r1 h, cO.x84r2 h, cO.x84r3 h, cO.x84r4 h, cO.x84r5 h, cO.x84r6 h, cO.x84r7 h, cO.x85 h, cO.x87 h, cO.x89 h, cO.x91 h, cO.x93 h, cO.x95 h, cO.x97 h, cO.x99 h, cO.x84f8 h, cO.x84f9 h, cO.x84f10 h, cO.x84f11 h, cO.x84f12 h, cO.x84f14 h, cO.x84f15 h, cO.x84f16 h, cO.x84f17 h, x1, x2, e1, y2, y3, y4, y5]
theorem c_mark (hX : cX w H s Bt) (hB : Bt < 100000) : ∃ u, rn 162 (0, [(0, jvr 64)], [], w) = some (some (.inl (A44 s).1), u) ∧ qA w u H (A44 s).2.2 (Bt + 1) (A44 s).2.1 := by
  have h := hX.1
  have hS := hX.2.2.2
  have ex := hS.ex
  have x1 := ex.1
  have ef := sh_full hS (by omega)
  unfold A44
  by_cases q : s.2.2.2.1 = 3
  · rw [if_pos q] at ef ⊢
    refine ⟨_, ?_, (hX.mo (by omega)).no⟩
    simp (disch := omega) only [p162_0, p162_1, p162_4, p162_7, p162_8, p162_9, p162_12, p162_13, p162_14, p162_17, p162_20, p162_23, p162_24, p162_25, p162_28, p162_29, p162_30, p162_33, p162_34, p162_37, p162_40, p162_41, p162_42, p162_45, p162_48, p162_49, p162_50, p162_53, p19_0, p19_1, p19_2, p19_5, p19_6, jwd_c, jwd_0, Nat.reduceLeDiff, Nat.reduceEqDiff, Nat.reduceAdd, Nat.reduceSub, Nat.reduceMul, Int.reduceAdd, Int.reduceSub, Int.reduceMul, Int.reduceNeg, Int.reduceEq, Int.reduceLT, Int.reduceLE, jq_ldi_i, jq_ldl_l, jq_lda_a, jq_inc_i, jq_gs_t, jq_gsb_t, jq_gb_t, jq_gr_2, jq_gr_4, jq_gw_2, jq_s_t, jq_b_t, jg_c, jg_n, js_c, js_n, jrm_c, jrm_n, j2_i, j2_l, j2_a, jq_c_i, jq_c_l, jq_c_0, jq_c_n, jwd_le, jw_c0, mS_I, mS_R, mS_J, mN_I, mN_R, mN_J, mR_I, mI_R, mJ_I, mJ_R, mI_J, mR_J, ↓reduceIte, decide_true, or_true, true_or, and_self, false_or, or_false, reduceCtorEq, Bool.false_eq_true, and_false, false_and, eq_self, true_and, and_true, zero_ne, ↓br_lt_t, ↓br_lt_f, ↓br_eq_t, ↓br_eq_f, ↓br_lz_t, ↓br_lz_f, ↓br_ez_t, ↓br_ez_f, ↓br_gz_t, ↓br_gz_f, jw_id, jin_t, jix_t, ↓ite_t, ↓ite_f, cO.s h, cO.r0 h, cO.r1 h, cO.r2 h, cO.r3 h, cO.r4 h, cO.r5 h, cO.r6 h, cO.r7 h, cO.r8 h, cO.r9 h, cO.r10 h, cO.o h, cO.x111 h, cO.x111p h, cO.x111k h, cO.x111t h, cO.x112 h, cO.x114 h, cO.x116 h, cO.x118 h, cO.x84 h, cO.x84r0 h, cO.x84r1 h, cO.x84r2 h, cO.x84r3 h, cO.x84r4 h, cO.x84r5 h, cO.x84r6 h, cO.x84r7 h, cO.x85 h, cO.x87 h, cO.x89 h, cO.x91 h, cO.x93 h, cO.x95 h, cO.x97 h, cO.x99 h, cO.x84f8 h, cO.x84f9 h, cO.x84f10 h, cO.x84f11 h, cO.x84f12 h, cO.x84f14 h, cO.x84f15 h, cO.x84f16 h, cO.x84f17 h, x1, ef]
  · rw [if_neg q] at ef ⊢
    obtain ⟨w1, e1, c1, f1⟩ := shf_push hS h.cr (by omega) (by omega) hB (by omega)
    have f1 : Fr (fun b => 208 ≤ b ∧ b ≤ 230) w w1 := f1
    have X1 : cX w1 H (s.1, s.2.1, s.2.2.1, s.2.2.2.1 + 1, gPuQ 3 s.2.2.2.1 s.2.2.2.2 s.1) (Bt + 1) := by
      obtain ⟨a1, a2, a3, a4⟩ := hX
      have gk : gPuK 3 s.2.2.2.1 = s.2.2.2.1 + 1 := if_neg q
      rw [gk] at c1
      exact ⟨a1.all f1 (fun b hb => by omega), a2.fr f1 (fun b b1 b2 => by omega), (a3.fr f1 (fun b b1 b2 => by omega)).mo (by omega), c1⟩
    have e2 := sh_cnt X1.2.2.2
    refine ⟨_, ?_, X1.fin (f1.mo (fun b hb => by omega))⟩
    have y1 := X1.s64
    have y2 := X1.1.r8
    have y3 := X1.2.2.2.ex.1
    have y4 : mS w1 208 = (1, 6, 0) := y3
    simp (disch := omega) only [p162_0, p162_1, p162_4, p162_7, p162_8, p162_9, p162_12, p162_13, p162_14, p162_17, p162_20, p162_23, p162_24, p162_25, p162_28, p162_29, p162_30, p162_33, p162_34, p162_37, p162_40, p162_41, p162_42, p162_45, p162_48, p162_49, p162_50, p162_53, p62_0, p62_1, p62_2, p62_5, p62_6, jwd_c, jwd_0, Nat.reduceLeDiff, Nat.reduceEqDiff, Nat.reduceAdd, Nat.reduceSub, Nat.reduceMul, Int.reduceAdd, Int.reduceSub, Int.reduceMul, Int.reduceNeg, Int.reduceEq, Int.reduceLT, Int.reduceLE, jq_ldi_i, jq_ldl_l, jq_lda_a, jq_inc_i, jq_gs_t, jq_gsb_t, jq_gb_t, jq_gr_2, jq_gr_4, jq_gw_2, jq_s_t, jq_b_t, jg_c, jg_n, js_c, js_n, jrm_c, jrm_n, j2_i, j2_l, j2_a, jq_c_i, jq_c_l, jq_c_0, jq_c_n, jwd_le, jw_c0, mS_I, mS_R, mS_J, mN_I, mN_R, mN_J, mR_I, mI_R, mJ_I, mJ_R, mI_J, mR_J, ↓reduceIte, decide_true, or_true, true_or, and_self, false_or, or_false, reduceCtorEq, Bool.false_eq_true, and_false, false_and, eq_self, true_and, and_true, zero_ne, ↓br_lt_t, ↓br_lt_f, ↓br_eq_t, ↓br_eq_f, ↓br_lz_t, ↓br_lz_f, ↓br_ez_t, ↓br_ez_f, ↓br_gz_t, ↓br_gz_f, jw_id, jin_t, jix_t, ↓ite_t, ↓ite_f, cO.s h, cO.r0 h, cO.r1 h, cO.r2 h, cO.r3 h, cO.r4 h, cO.r5 h, cO.r6 h, cO.r7 h, cO.r8 h, cO.r9 h, cO.r10 h, cO.o h, cO.x111 h, cO.x111p h, cO.x111k h, cO.x111t h, cO.x112 h, cO.x114 h, cO.x116 h, cO.x118 h, cO.x84 h, cO.x84r0 h, cO.x84r1 h, cO.x84r2 h, cO.x84r3 h, cO.x84r4 h, cO.x84r5 h, cO.x84r6 h, cO.x84r7 h, cO.x85 h, cO.x87 h, cO.x89 h, cO.x91 h, cO.x93 h, cO.x95 h, cO.x97 h, cO.x99 h, cO.x84f8 h, cO.x84f9 h, cO.x84f10 h, cO.x84f11 h, cO.x84f12 h, cO.x84f14 h, cO.x84f15 h, cO.x84f16 h, cO.x84f17 h, x1, ef, e1, e2, y1, y2, y4]
    rw [show (((s.2.2.2.1 + 1 : Nat) : Int) - 1) = (s.2.2.2.1 : Int) by omega]
theorem c_back (hX : cX w H s Bt) (hB : Bt < 100000) (rq : ∀ i, i < s.2.2.2.1 → RI H B (s.2.2.2.2 i)) {m : Int} (m1 : -2147483648 ≤ m) (m2 : m < 2147483648) : ∃ u, rn 164 (0, [(0, jvr 64), (1, .inl m)], [], w) = some (some (.inl (A45 s m).1), u) ∧ qA w u H (A45 s m).2.2 Bt (A45 s m).2.1 := by
  have h := hX.1
  have hS := hX.2.2.2
  have ex := hS.ex
  have x1 := ex.1
  have x2 := ex.2.1
  unfold A45
  by_cases q : 0 ≤ m ∧ m < s.2.2.2.1
  · rw [if_pos q]
    obtain ⟨w1, e1, c1, f1⟩ := sh_show hS h.cr (by omega) (by omega) hB (by omega) (i := m) q.1 q.2
    have f1 : Fr (rP 111) w w1 := f1
    have f1' : Fr (fun b => 111 ≤ b ∧ b ≤ 117) w w1 := f1.mo (fun b hb => by unfold rP at hb; omega)
    have rr := rq m.toNat (by omega)
    have r16 := rr.1.1
    have X1 := hX.row f1' (cr_gCp (o := s.1) c1 (by omega) (by omega))
    obtain ⟨a1, a2, a3, a4⟩ := X1
    obtain ⟨w2, e2, c2, f2⟩ := sh_clear a3
    have X2 : cX w2 H (gCp (s.2.2.2.2 m.toNat) s.1, 0, s.2.2) Bt := ⟨a1.all f2 (fun b hb => by omega), a2.fr f2 (fun b b1 b2 => by omega), c2 _ _, a4.fr f2 (fun b b1 b2 => by omega)⟩
    have fA : Fr (fun b => 111 ≤ b ∧ b ≤ 237) w w2 := (f1'.mo (fun b hb => by omega)).tr (f2.mo (fun b hb => by omega))
    refine ⟨_, ?_, X2.fin fA⟩
    have y1 := a1.s
    have y2 := a1.r7
    have y3 : mS w1 136 = (1, 6, 0) := a3.ex.1
    have y4 := X2.s64
    simp (disch := omega) only [p164_0, p164_1, p164_4, p164_5, p164_6, p164_9, p164_12, p164_15, p164_16, p164_17, p164_20, p164_21, p164_22, p164_25, p164_28, p164_29, p164_32, p154_0, p154_1, p154_2, p154_5, p154_6, jwd_c, jwd_0, Nat.reduceLeDiff, Nat.reduceEqDiff, Nat.reduceAdd, Nat.reduceSub, Nat.reduceMul, Int.reduceAdd, Int.reduceSub, Int.reduceMul, Int.reduceNeg, Int.reduceEq, Int.reduceLT, Int.reduceLE, jq_ldi_i, jq_ldl_l, jq_lda_a, jq_inc_i, jq_gs_t, jq_gsb_t, jq_gb_t, jq_gr_2, jq_gr_4, jq_gw_2, jq_s_t, jq_b_t, jg_c, jg_n, js_c, js_n, jrm_c, jrm_n, j2_i, j2_l, j2_a, jq_c_i, jq_c_l, jq_c_0, jq_c_n, jwd_le, jw_c0, mS_I, mS_R, mS_J, mN_I, mN_R, mN_J, mR_I, mI_R, mJ_I, mJ_R, mI_J, mR_J, ↓reduceIte, decide_true, or_true, true_or, and_self, false_or, or_false, reduceCtorEq, Bool.false_eq_true, and_false, false_and, eq_self, true_and, and_true, zero_ne, ↓br_lt_t, ↓br_lt_f, ↓br_eq_t, ↓br_eq_f, ↓br_lz_t, ↓br_lz_f, ↓br_ez_t, ↓br_ez_f, ↓br_gz_t, ↓br_gz_f, jw_id, jin_t, jix_t, ↓ite_t, ↓ite_f, cO.s h, cO.r0 h, cO.r1 h, cO.r2 h, cO.r3 h, cO.r4 h, cO.r5 h, cO.r6 h, cO.r7 h, cO.r8 h, cO.r9 h, cO.r10 h, cO.o h, cO.x111 h, cO.x111p h, cO.x111k h, cO.x111t h, cO.x112 h, cO.x114 h, cO.x116 h, cO.x118 h, cO.x84 h, cO.x84r0 h, cO.x84r1 h, cO.x84r2 h, cO.x84r3 h, cO.x84r4 h, cO.x84r5 h, cO.x84r6 h, cO.x84r7 h, cO.x85 h, cO.x87 h, cO.x89 h, cO.x91 h, cO.x93 h, cO.x95 h, cO.x97 h, cO.x99 h, cO.x84f8 h, cO.x84f9 h, cO.x84f10 h, cO.x84f11 h, cO.x84f12 h, cO.x84f14 h, cO.x84f15 h, cO.x84f16 h, cO.x84f17 h, x1, e1, e2, y1, y2, y3, y4]
  · rw [if_neg q]
    have e1 := sh_noshow (w := w) (s := 208) (k := s.2.2.2.1) (i := m) (o := some 111) x1 x2 (by omega) m1 m2 (by omega)
    refine ⟨_, ?_, hX.no⟩
    simp (disch := omega) only [p164_0, p164_1, p164_4, p164_5, p164_6, p164_9, p164_12, p164_15, p164_16, p164_17, p164_20, p164_21, p164_22, p164_25, p164_28, p164_29, p164_32, p153_0, p153_1, p153_2, p153_5, p153_6, jwd_c, jwd_0, Nat.reduceLeDiff, Nat.reduceEqDiff, Nat.reduceAdd, Nat.reduceSub, Nat.reduceMul, Int.reduceAdd, Int.reduceSub, Int.reduceMul, Int.reduceNeg, Int.reduceEq, Int.reduceLT, Int.reduceLE, jq_ldi_i, jq_ldl_l, jq_lda_a, jq_inc_i, jq_gs_t, jq_gsb_t, jq_gb_t, jq_gr_2, jq_gr_4, jq_gw_2, jq_s_t, jq_b_t, jg_c, jg_n, js_c, js_n, jrm_c, jrm_n, j2_i, j2_l, j2_a, jq_c_i, jq_c_l, jq_c_0, jq_c_n, jwd_le, jw_c0, mS_I, mS_R, mS_J, mN_I, mN_R, mN_J, mR_I, mI_R, mJ_I, mJ_R, mI_J, mR_J, ↓reduceIte, decide_true, or_true, true_or, and_self, false_or, or_false, reduceCtorEq, Bool.false_eq_true, and_false, false_and, eq_self, true_and, and_true, zero_ne, ↓br_lt_t, ↓br_lt_f, ↓br_eq_t, ↓br_eq_f, ↓br_lz_t, ↓br_lz_f, ↓br_ez_t, ↓br_ez_f, ↓br_gz_t, ↓br_gz_f, jw_id, jin_t, jix_t, ↓ite_t, ↓ite_f, cO.s h, cO.r0 h, cO.r1 h, cO.r2 h, cO.r3 h, cO.r4 h, cO.r5 h, cO.r6 h, cO.r7 h, cO.r8 h, cO.r9 h, cO.r10 h, cO.o h, cO.x111 h, cO.x111p h, cO.x111k h, cO.x111t h, cO.x112 h, cO.x114 h, cO.x116 h, cO.x118 h, cO.x84 h, cO.x84r0 h, cO.x84r1 h, cO.x84r2 h, cO.x84r3 h, cO.x84r4 h, cO.x84r5 h, cO.x84r6 h, cO.x84r7 h, cO.x85 h, cO.x87 h, cO.x89 h, cO.x91 h, cO.x93 h, cO.x95 h, cO.x97 h, cO.x99 h, cO.x84f8 h, cO.x84f9 h, cO.x84f10 h, cO.x84f11 h, cO.x84f12 h, cO.x84f14 h, cO.x84f15 h, cO.x84f16 h, cO.x84f17 h, x1, e1]
end ACTS
