/-! The class: how far from a cell. -/
/-- as far as ring k; what is at k + 1 and already found -/
noncomputable def gBase (Bk : Int → Prop) (c : Int) : Int := ci (Bk c) (-2) (-1)
noncomputable def gLw (H : Nat → Nat → Int) (Bk : Int → Prop) (f k : Int) (P : Int → Prop) (c : Int) : Int := if 0 ≤ gDist H Bk f c ∧ gDist H Bk f c ≤ k then gDist H Bk f c else ci (gDist H Bk f c = k + 1 ∧ P c) (k + 1) (gBase Bk c)
noncomputable def gSp (H : Nat → Nat → Int) (Bk : Int → Prop) (f c : Int) : Int := if 0 ≤ gDist H Bk f c then gDist H Bk f c else gBase Bk c
section DIST2
variable {H : Nat → Nat → Int} {Bk : Int → Prop} {f : Int}
theorem base_bd (c : Int) : -2 ≤ gBase Bk c ∧ gBase Bk c ≤ -1 := by
  unfold gBase
  by_cases h : Bk c
  · rw [ci_t h]
    omega
  · rw [ci_f h]
    omega
theorem dist_f (hf : gFrom H f) : gDist H Bk f f = 0 := gDist_eq (Or.inl ⟨hf, 0, rfl, rfl, fun m hm => by omega⟩)
theorem dist_cl {c : Int} : 0 ≤ gDist H Bk f c ∨ gDist H Bk f c = -2 := by
  rcases gDist_ds H Bk f c with ⟨-, n, h, -⟩ | ⟨h, -⟩
  · exact Or.inl (by omega)
  · exact Or.inr h
theorem dist_r {n : Nat} {c : Int} (hf : gFrom H f) (h : Rch H Bk f n c) : 0 ≤ gDist H Bk f c ∧ gDist H Bk f c ≤ n := by
  rcases gDist_ds H Bk f c with ⟨-, m, h1, h2, h3⟩ | ⟨h1, h2⟩
  · rw [h1]
    by_cases z : n < m
    · exact absurd h (h3 n z)
    · omega
  · exact absurd ⟨hf, n, h⟩ h2
theorem dist_m {n : Nat} {c : Int} (h : gDist H Bk f c = n) : Rch H Bk f n c ∧ gFrom H f := by
  rcases gDist_ds H Bk f c with ⟨h0, m, h1, h2, h3⟩ | ⟨h1, h2⟩
  · have : m = n := by omega
    rw [← this]
    exact ⟨h2, h0⟩
  · omega
/-- one step on -/
theorem lv_1 (hf : gFrom H f) {i c s k : Int} (hk : 0 ≤ k) (h : gDist H Bk f i = k) (s1 : 0 ≤ s) (s2 : s < 4) (e : gTo H i s = c) (o : gOpen H c) (b : ¬ Bk c) : 0 ≤ gDist H Bk f c ∧ gDist H Bk f c ≤ k + 1 := by
  have h1 := dist_m (H := H) (Bk := Bk) (f := f) (n := k.toNat) (c := i) (by omega)
  have h2 := dist_r hf (n := k.toNat + 1) (c := c) ⟨i, s, h1.1, s1, s2, e, o, b⟩
  omega
theorem lv_2 (hk : HOK H) (hf2 : f < H 1 0) {c k : Int} (k0 : 0 ≤ k) (h : gDist H Bk f c = k + 1) : (∃ p s : Int, 0 ≤ p ∧ p < H 1 0 ∧ gDist H Bk f p = k ∧ 0 ≤ s ∧ s < 4 ∧ gTo H p s = c ∧ gOpen H c) ∧ ¬ Bk c := by
  obtain ⟨h1, h2⟩ := dist_m (H := H) (Bk := Bk) (f := f) (n := k.toNat + 1) (c := c) (by omega)
  obtain ⟨p, s, p1, p2, p3, p4, p5, p6⟩ := h1
  have pb := Rch.ok hk ⟨h2.1, hf2⟩ _ _ p1
  have pd := dist_r h2 p1
  refine ⟨⟨p, s, pb.1, pb.2, ?_, p2, p3, p4, p5⟩, p6⟩
  have := lv_1 (c := c) h2 pd.1 rfl p2 p3 p4 p5 p6
  omega
theorem lv_3 {c : Int} (b : Bk c) (hc : c ≠ f) : gDist H Bk f c = -2 := by
  rcases gDist_ds H Bk f c with ⟨h0, m, h1, h2, h3⟩ | ⟨h1, h2⟩
  · cases m with
    | zero => exact absurd h2 hc
    | succ m =>
      obtain ⟨p, s, p1, p2, p3, p4, p5, p6⟩ := h2
      exact absurd b p6
  · exact h1
theorem lw_i {k : Int} {P : Int → Prop} (k0 : 0 ≤ k) {i : Int} : gLw H Bk f k P i = k ↔ gDist H Bk f i = k := by
  have b := base_bd (Bk := Bk) i
  unfold gLw
  by_cases z : 0 ≤ gDist H Bk f i ∧ gDist H Bk f i ≤ k
  · rw [if_pos z]
  · rw [if_neg z]
    by_cases y : gDist H Bk f i = k + 1 ∧ P i
    · rw [ci_t y]
      omega
    · rw [ci_f y]
      omega
theorem lw_bd {k : Int} {P : Int → Prop} (k0 : 0 ≤ k) {i : Int} : -2 ≤ gLw H Bk f k P i ∧ gLw H Bk f k P i ≤ k + 1 := by
  have b := base_bd (Bk := Bk) i
  unfold gLw
  by_cases z : 0 ≤ gDist H Bk f i ∧ gDist H Bk f i ≤ k
  · rw [if_pos z]
    omega
  · rw [if_neg z]
    by_cases y : gDist H Bk f i = k + 1 ∧ P i
    · rw [ci_t y]
      omega
    · rw [ci_f y]
      omega
theorem lw_nr {k : Int} {P : Int → Prop} {c : Int} (h : 0 ≤ gDist H Bk f c ∧ gDist H Bk f c ≤ k) : gLw H Bk f k P c = gDist H Bk f c := by
  unfold gLw
  rw [if_pos h]
theorem lw_at {k : Int} {P : Int → Prop} {c : Int} (h : gDist H Bk f c = k + 1) (hp : P c) : gLw H Bk f k P c = k + 1 := by
  unfold gLw
  rw [if_neg (by omega), ci_t ⟨h, hp⟩]
theorem lw_fr {k : Int} {P : Int → Prop} {c : Int} (h : ¬ (0 ≤ gDist H Bk f c ∧ gDist H Bk f c ≤ k)) (hp : ¬ (gDist H Bk f c = k + 1 ∧ P c)) : gLw H Bk f k P c = gBase Bk c := by
  unfold gLw
  rw [if_neg h, ci_f hp]
/-- a cell beside one of ring k, found -/
theorem lw_put (hf : gFrom H f) {k i s c : Int} {P : Int → Prop} (k0 : 0 ≤ k) (h : gDist H Bk f i = k) (s1 : 0 ≤ s) (s2 : s < 4) (e : gTo H i s = c) (o : gOpen H c) (d : Int) : gLw H Bk f k (fun x => P x ∨ x = c) d = if d = c ∧ gLw H Bk f k P c = -1 then k + 1 else gLw H Bk f k P d := by
  by_cases hd : d = c
  · subst hd
    by_cases hc : d = f
    · have hz : 0 ≤ gDist H Bk f d ∧ gDist H Bk f d ≤ k := by
        rw [hc, dist_f hf]
        omega
      rw [lw_nr hz, lw_nr hz, if_neg (fun z => by have := z.2; omega)]
    · by_cases hb : Bk d
      · have h3 := lv_3 (H := H) (f := f) hb hc
        have a1 := lw_fr (H := H) (Bk := Bk) (f := f) (k := k) (P := P) (c := d) (by omega) (fun z => by have := z.1; omega)
        have a2 := lw_fr (H := H) (Bk := Bk) (f := f) (k := k) (P := fun x => P x ∨ x = d) (c := d) (by omega) (fun z => by have := z.1; omega)
        have a3 : gBase Bk d = -2 := ci_t hb
        rw [a1, a2, a3, if_neg (fun z => by have := z.2; omega)]
      · have h4 := lv_1 hf k0 h s1 s2 e o hb
        by_cases hz : gDist H Bk f d ≤ k
        · rw [lw_nr ⟨h4.1, hz⟩, lw_nr ⟨h4.1, hz⟩, if_neg (fun z => by have := z.2; omega)]
        · have h5 : gDist H Bk f d = k + 1 := by omega
          have a2 := lw_at (H := H) (Bk := Bk) (f := f) (k := k) (P := fun x => P x ∨ x = d) (c := d) h5 (Or.inr rfl)
          rw [a2]
          by_cases hp : P d
          · rw [lw_at h5 hp, if_neg (fun z => by have := z.2; omega)]
          · have a1 := lw_fr (H := H) (Bk := Bk) (f := f) (k := k) (P := P) (c := d) (by omega) (fun z => hp z.2)
            have a3 : gBase Bk d = -1 := ci_f hb
            rw [a1, a3, if_pos ⟨rfl, rfl⟩]
  · rw [if_neg (fun z => hd z.1)]
    unfold gLw
    have : (gDist H Bk f d = k + 1 ∧ (P d ∨ d = c)) = (gDist H Bk f d = k + 1 ∧ P d) := propext ⟨fun z => ⟨z.1, z.2.resolve_right hd⟩, fun z => ⟨z.1, Or.inl z.2⟩⟩
    rw [this]
theorem lw_cg {k : Int} {P P2 : Int → Prop} {c : Int} (h : P c ↔ P2 c) : gLw H Bk f k P c = gLw H Bk f k P2 c := by
  unfold gLw
  rw [propext h]
/-- what stands beside cells before i that lie at k -/
def gRe (H : Nat → Nat → Int) (Bk : Int → Prop) (f k i : Int) (c : Int) : Prop := ∃ p s : Int, 0 ≤ p ∧ p < i ∧ gDist H Bk f p = k ∧ 0 ≤ s ∧ s < 4 ∧ gTo H p s = c ∧ gOpen H c
theorem lw_next (hk : HOK H) (hf2 : f < H 1 0) {k : Int} (k0 : 0 ≤ k) {c : Int} : gLw H Bk f k (gRe H Bk f k (H 1 0)) c = gLw H Bk f (k + 1) (fun _ => False) c := by
  by_cases z : 0 ≤ gDist H Bk f c ∧ gDist H Bk f c ≤ k
  · rw [lw_nr z, lw_nr (by omega)]
  · by_cases y : gDist H Bk f c = k + 1
    · obtain ⟨⟨p, s, p1, p2, p3, p4, p5, p6, p7⟩, -⟩ := lv_2 hk hf2 k0 y
      have hp : gRe H Bk f k (H 1 0) c := ⟨p, s, p1, p2, p3, p4, p5, p6, p7⟩
      rw [lw_at y hp, lw_nr (by omega), y]
    · rw [lw_fr z (fun x => y x.1), lw_fr (by omega) (fun x => x.2)]
theorem lw_end (hk : HOK H) (hf2 : f < H 1 0) {c : Int} : gLw H Bk f (H 1 0) (fun _ => False) c = gSp H Bk f c := by
  have b := gDist_bd (Bk := Bk) (c := c) hk hf2
  unfold gLw gSp
  by_cases z : 0 ≤ gDist H Bk f c
  · rw [if_pos ⟨z, by omega⟩, if_pos z]
  · rw [if_neg (fun x => z x.1), if_neg z, ci_f (fun x => x.2)]
theorem lw_0 (hf : gFrom H f) {c : Int} : (if c = f then 0 else gBase Bk c) = gLw H Bk f 0 (fun _ => False) c := by
  unfold gLw
  by_cases z : c = f
  · subst z
    rw [if_pos rfl, dist_f hf, if_pos (by omega)]
  · rw [if_neg z, if_neg ?_, ci_f (fun x => x.2)]
    intro y
    have h1 := dist_m (H := H) (Bk := Bk) (f := f) (n := 0) (c := c) (by omega)
    exact z h1.1
/-- who starts may stand in his own cell -/
theorem dist_own {Bk2 : Int → Prop} (h : ∀ c, c ≠ f → (Bk c ↔ Bk2 c)) (c : Int) : gDist H Bk f c = gDist H Bk2 f c := by
  have imp : ∀ (B1 B2 : Int → Prop), (∀ c, c ≠ f → (B1 c ↔ B2 c)) → ∀ (n : Nat) (c : Int), Rch H B1 f n c → ∃ m, m ≤ n ∧ Rch H B2 f m c := by
    intro B1 B2 hB n
    induction n with
    | zero =>
      intro c hc
      exact ⟨0, Nat.le_refl _, hc⟩
    | succ n ih =>
      intro c hc
      obtain ⟨p, s, p1, p2, p3, p4, p5, p6⟩ := hc
      by_cases z : c = f
      · exact ⟨0, by omega, z⟩
      · obtain ⟨m, m1, m2⟩ := ih p p1
        exact ⟨m + 1, by omega, p, s, m2, p2, p3, p4, p5, fun y => p6 ((hB c z).mpr y)⟩
  have i1 := imp Bk Bk2 h
  have i2 := imp Bk2 Bk (fun c hc => (h c hc).symm)
  refine gDist_eq ?_
  rcases gDist_ds H Bk2 f c with ⟨h0, m, h1, h2, h3⟩ | ⟨h1, h2⟩
  · refine Or.inl ⟨h0, m, h1, ?_, ?_⟩
    · obtain ⟨j, j1, j2⟩ := i2 m c h2
      by_cases z : j = m
      · rw [← z]
        exact j2
      · obtain ⟨l, l1, l2⟩ := i1 j c j2
        exact absurd l2 (h3 l (by omega))
    · intro j hj y
      obtain ⟨l, l1, l2⟩ := i1 j c y
      exact h3 l (by omega) l2
  · refine Or.inr ⟨h1, fun y => h2 ⟨y.1, ?_⟩⟩
    obtain ⟨n, hn⟩ := y.2
    obtain ⟨l, l1, l2⟩ := i1 n c hn
    exact ⟨l, l2⟩
end DIST2
/-- what spreading reads of a Hall -/
def SPc (w : jmW) (b : Nat) (H : Nat → Nat → Int) : Prop := mS w b = (1, 1, 0) ∧ mR w b 0 = some (b + 1) ∧ mR w b 6 = some (b + 13) ∧ Sg w (b + 1) 1 48 (H 1 0).toNat (fun i _ => H 17 i) ∧ Sg w (b + 13) 4 48 (H 1 0).toNat (gNear H)
section SPREAD
variable {w u : jmW} {H : Nat → Nat → Int} {b : Nat} {Bk : Int → Prop} {f : Int}
theorem SPc.fr {P : Nat → Prop} (h : SPc w b H) (hf : Fr P w u) (hP : ∀ x, (x = b ∨ x = b + 1 ∨ x = b + 2 ∨ x = b + 13 ∨ x = b + 14) → ¬ P x) : SPc u b H := by
  obtain ⟨h1, h2, h3, h4, h5⟩ := h
  exact ⟨by rw [hf.q]; exact h1, by rw [hf.Rq (hP _ (by omega))]; exact h2, by rw [hf.Rq (hP _ (by omega))]; exact h3, h4.fr hf (hP _ (by omega)) (hP _ (by omega)), h5.fr hf (hP _ (by omega)) (hP _ (by omega))⟩
theorem h_opn (hs : mS w b = (1, 1, 0)) (h0 : mR w b 0 = some (b + 1)) (hg : Sg w (b + 1) 1 48 (H 1 0).toNat (fun i _ => H 17 i)) (n0 : 0 ≤ H 1 0) (n1 : H 1 0 ≤ 48) (k4 : ∀ c : Int, 0 ≤ c → c < H 1 0 → 0 ≤ H 17 c.toNat ∧ H 17 c.toNat ≤ 3) {c : Int} (c1 : -2 ≤ c) (c2 : c < H 1 0) : rn 49 (0, [(0, jvr b), (1, .inl c)], [], w) = some (some (.inl (bi (gFrom H c))), w) := by
  have e0 := sg_count hg
  rw [show (((H 1 0).toNat : Nat) : Int) = H 1 0 by omega] at e0
  have s1 := hg.1
  by_cases q : 0 ≤ c
  · have e1 := sg_in hg (l := c) (k := 0) q (by omega) (by omega) (by omega)
    have kc := k4 c q c2
    by_cases q2 : H 17 c.toNat < 2
    · rw [bi_t (show gFrom H c from ⟨q, q2⟩)]
      simp (disch := omega) only [p49_0, p49_1, p49_4, p49_5, p49_6, p49_9, p49_12, p49_15, p49_16, p49_19, p49_20, p49_21, p49_24, p49_25, p49_28, p49_29, p49_32, p49_33, jwd_c, jwd_0, Nat.reduceLeDiff, Nat.reduceEqDiff, Nat.reduceAdd, Nat.reduceSub, Nat.reduceMul, Int.reduceAdd, Int.reduceSub, Int.reduceMul, Int.reduceNeg, Int.reduceEq, Int.reduceLT, Int.reduceLE, jq_ldi_i, jq_ldl_l, jq_lda_a, jq_inc_i, jq_gs_t, jq_gsb_t, jq_gb_t, jq_gr_2, jq_gr_4, jq_gw_2, jq_s_t, jq_b_t, jg_c, jg_n, js_c, js_n, jrm_c, jrm_n, j2_i, j2_l, j2_a, jq_c_i, jq_c_l, jq_c_0, jq_c_n, jwd_le, jw_c0, mS_I, mS_R, mS_J, mN_I, mN_R, mN_J, mR_I, mI_R, mJ_I, mJ_R, mI_J, mR_J, ↓reduceIte, decide_true, or_true, true_or, and_self, false_or, or_false, reduceCtorEq, Bool.false_eq_true, and_false, false_and, eq_self, true_and, and_true, zero_ne, ↓br_lt_t, ↓br_lt_f, ↓br_eq_t, ↓br_eq_f, ↓br_lz_t, ↓br_lz_f, ↓br_ez_t, ↓br_ez_f, ↓br_gz_t, ↓br_gz_f, jw_id, jin_t, jix_t, ↓ite_t, ↓ite_f, hs, h0, s1, e0, e1]
    · rw [bi_f (show ¬ gFrom H c from fun z => q2 z.2)]
      simp (disch := omega) only [p49_0, p49_1, p49_4, p49_5, p49_6, p49_9, p49_12, p49_15, p49_16, p49_19, p49_20, p49_21, p49_24, p49_25, p49_28, p49_29, p49_32, p49_33, jwd_c, jwd_0, Nat.reduceLeDiff, Nat.reduceEqDiff, Nat.reduceAdd, Nat.reduceSub, Nat.reduceMul, Int.reduceAdd, Int.reduceSub, Int.reduceMul, Int.reduceNeg, Int.reduceEq, Int.reduceLT, Int.reduceLE, jq_ldi_i, jq_ldl_l, jq_lda_a, jq_inc_i, jq_gs_t, jq_gsb_t, jq_gb_t, jq_gr_2, jq_gr_4, jq_gw_2, jq_s_t, jq_b_t, jg_c, jg_n, js_c, js_n, jrm_c, jrm_n, j2_i, j2_l, j2_a, jq_c_i, jq_c_l, jq_c_0, jq_c_n, jwd_le, jw_c0, mS_I, mS_R, mS_J, mN_I, mN_R, mN_J, mR_I, mI_R, mJ_I, mJ_R, mI_J, mR_J, ↓reduceIte, decide_true, or_true, true_or, and_self, false_or, or_false, reduceCtorEq, Bool.false_eq_true, and_false, false_and, eq_self, true_and, and_true, zero_ne, ↓br_lt_t, ↓br_lt_f, ↓br_eq_t, ↓br_eq_f, ↓br_lz_t, ↓br_lz_f, ↓br_ez_t, ↓br_ez_f, ↓br_gz_t, ↓br_gz_f, jw_id, jin_t, jix_t, ↓ite_t, ↓ite_f, hs, h0, s1, e0, e1]
  · rw [bi_f (show ¬ gFrom H c from fun z => q z.1)]
    simp (disch := omega) only [p49_0, p49_1, p49_4, p49_5, p49_6, p49_9, p49_12, p49_15, p49_16, p49_19, p49_20, p49_21, p49_24, p49_25, p49_28, p49_29, p49_32, p49_33, jwd_c, jwd_0, Nat.reduceLeDiff, Nat.reduceEqDiff, Nat.reduceAdd, Nat.reduceSub, Nat.reduceMul, Int.reduceAdd, Int.reduceSub, Int.reduceMul, Int.reduceNeg, Int.reduceEq, Int.reduceLT, Int.reduceLE, jq_ldi_i, jq_ldl_l, jq_lda_a, jq_inc_i, jq_gs_t, jq_gsb_t, jq_gb_t, jq_gr_2, jq_gr_4, jq_gw_2, jq_s_t, jq_b_t, jg_c, jg_n, js_c, js_n, jrm_c, jrm_n, j2_i, j2_l, j2_a, jq_c_i, jq_c_l, jq_c_0, jq_c_n, jwd_le, jw_c0, mS_I, mS_R, mS_J, mN_I, mN_R, mN_J, mR_I, mI_R, mJ_I, mJ_R, mI_J, mR_J, ↓reduceIte, decide_true, or_true, true_or, and_self, false_or, or_false, reduceCtorEq, Bool.false_eq_true, and_false, false_and, eq_self, true_and, and_true, zero_ne, ↓br_lt_t, ↓br_lt_f, ↓br_eq_t, ↓br_eq_f, ↓br_lz_t, ↓br_lz_f, ↓br_ez_t, ↓br_ez_f, ↓br_gz_t, ↓br_gz_f, jw_id, jin_t, jix_t, ↓ite_t, ↓ite_f, hs, h0, s1]
theorem reach_lp (hk : HOK H) (hf : gFrom H f) {s : Nat} (hd : s + 1 < b ∨ b + 14 < s) {i k : Int} (i1 : 0 ≤ i) (i2 : i < H 1 0) (k0 : 0 ≤ k) (k1 : k < 100) (hD : gDist H Bk f i = k) : ∀ (n : Nat) (t : Int) (P : Int → Prop) (tl : jmL) (w : jmW), SPc w b H → Sg w s 1 48 (H 1 0).toNat (fun c _ => gLw H Bk f k P c) → 0 ≤ t → t + n = 4 → t1p 5 tl → ∃ u, rn 58 (3, (0, jvr b) :: (1, .inl i) :: (2, .inl (k + 1)) :: (3, jvr s) :: (4, .inl t) :: tl, [], w) = some (none, u) ∧ Sg u s 1 48 (H 1 0).toNat (fun c _ => gLw H Bk f k (fun x => P x ∨ ∃ s : Int, t ≤ s ∧ s < 4 ∧ gTo H i s = x ∧ gOpen H x) c) ∧ Fr (sP s) w u := by
  have kc := hk.1.2.2.2.2.2
  intro n
  induction n with
  | zero =>
    intro t P tl w hc hs t1 t2 ht
    refine ⟨w, ?_, hs.mk2 (fun c j hc hj => lw_cg ⟨fun z => Or.inl z, fun z => z.resolve_right (fun ⟨s, s1, s2, _⟩ => by omega)⟩), Fr.rf _ _⟩
    rw [p58_3]
    simp (disch := omega) only [p58_0, p58_1, p58_5, p58_6, p58_9, p58_10, p58_13, p58_14, p58_16, p58_19, p58_21, p58_23, p58_26, p58_27, p58_29, p58_30, p58_33, p58_34, p58_37, p58_38, p58_40, p58_41, p58_42, p58_45, p58_48, p58_51, jwd_c, jwd_0, Nat.reduceLeDiff, Nat.reduceEqDiff, Nat.reduceAdd, Nat.reduceSub, Nat.reduceMul, Int.reduceAdd, Int.reduceSub, Int.reduceMul, Int.reduceNeg, Int.reduceEq, Int.reduceLT, Int.reduceLE, jq_ldi_i, jq_ldl_l, jq_lda_a, jq_inc_i, jq_gs_t, jq_gsb_t, jq_gb_t, jq_gr_2, jq_gr_4, jq_gw_2, jq_s_t, jq_b_t, jg_c, jg_n, js_c, js_n, jrm_c, jrm_n, j2_i, j2_l, j2_a, jq_c_i, jq_c_l, jq_c_0, jq_c_n, jwd_le, jw_c0, mS_I, mS_R, mS_J, mN_I, mN_R, mN_J, mR_I, mI_R, mJ_I, mJ_R, mI_J, mR_J, ↓reduceIte, decide_true, or_true, true_or, and_self, false_or, or_false, reduceCtorEq, Bool.false_eq_true, and_false, false_and, eq_self, true_and, and_true, zero_ne, ↓br_lt_t, ↓br_lt_f, ↓br_eq_t, ↓br_eq_f, ↓br_lz_t, ↓br_lz_f, ↓br_ez_t, ↓br_ez_f, ↓br_gz_t, ↓br_gz_f, jw_id, jin_t, jix_t, ↓ite_t, ↓ite_f]
  | succ n ih =>
    intro t P tl w hc hs t1 t2 ht
    have jr : ∀ a, a < 5 → jrm tl a = tl := by
      intro a ha
      rcases ht with rfl | ⟨x, rfl⟩
      · rfl
      · rw [jrm_c, if_neg (by dsimp only; omega), if_neg (by dsimp only; omega)]
        rfl
    have j3 := t1p_js ht
    have e1 := sg_in hc.2.2.2.2 (l := i) (k := t) i1 (by omega) t1 (by omega)
    have eT : gTo H ((i.toNat : Nat) : Int) ((t.toNat : Nat) : Int) = gTo H i t := by rw [show ((i.toNat : Nat) : Int) = i by omega, show ((t.toNat : Nat) : Int) = t by omega]
    have eN : gNear H i.toNat t.toNat = ci (gOpen H (gTo H i t)) (gTo H i t) (-1) := by
      unfold gNear
      rw [eT]
    rw [eN] at e1
    have tb := gTo_bd hk (s := t) i1 i2
    have s1 := hs.1
    have s2 := hc.2.2.2.2.1
    have hc1 := hc.1
    have hc3 := hc.2.2.1
    generalize hT : gTo H i t = T at *
    by_cases q : gOpen H T
    · rw [ci_t q] at e1
      have T0 : 0 ≤ T := by have := q.1; omega
      have e2 := sg_in hs (l := T) (k := 0) T0 (by omega) (by omega) (by omega)
      rw [show ((T.toNat : Nat) : Int) = T by omega] at e2
      have pw := lw_put (P := P) hf k0 hD t1 (by omega) hT q
      have lb := lw_bd (H := H) (Bk := Bk) (f := f) (P := P) k0 (i := T)
      have pe : ∀ x, ((P x ∨ x = T) ∨ ∃ s : Int, t + 1 ≤ s ∧ s < 4 ∧ gTo H i s = x ∧ gOpen H x) ↔ (P x ∨ ∃ s : Int, t ≤ s ∧ s < 4 ∧ gTo H i s = x ∧ gOpen H x) := by
        intro x
        constructor
        · rintro ((z | z) | ⟨s, a1, a2, a3, a4⟩)
          · exact Or.inl z
          · exact Or.inr ⟨t, by omega, by omega, by rw [z]; exact hT, by rw [z]; exact q⟩
          · exact Or.inr ⟨s, by omega, a2, a3, a4⟩
        · rintro (z | ⟨s, a1, a2, a3, a4⟩)
          · exact Or.inl (Or.inl z)
          · by_cases y : s = t
            · subst y
              exact Or.inl (Or.inr (by rw [← a3, hT]))
            · exact Or.inr ⟨s, by omega, a2, a3, a4⟩
      by_cases q2 : gLw H Bk f k P T = -1
      · obtain ⟨w1, e3, s3, f3⟩ := sg_put (v := k + 1) hs (l := T) (k := 0) T0 (by omega) (by omega) (by omega)
        have hc' := hc.fr f3 (fun x hx => sP_n (by omega))
        have s4 : Sg w1 s 1 48 (H 1 0).toNat (fun c _ => gLw H Bk f k (fun x => P x ∨ x = T) c) := s3.mk2 (fun x j hx hj => by
          show (if x = T.toNat ∧ j = (0 : Int).toNat then k + 1 else gLw H Bk f k P x) = gLw H Bk f k (fun x => P x ∨ x = T) x
          rw [pw x]
          by_cases z : x = T.toNat
          · rw [if_pos ⟨z, by show j = 0; omega⟩, if_pos ⟨by omega, q2⟩]
          · rw [if_neg (fun y => z y.1), if_neg (fun y => z (by omega))])
        obtain ⟨u, a1, a2, a3⟩ := ih (t + 1) _ [(5, .inl T)] w1 hc' s4 (by omega) (by omega) (Or.inr ⟨_, rfl⟩)
        refine ⟨u, ?_, a2.mk2 (fun x j hx hj => lw_cg (pe x)), f3.tr a3⟩
        rw [← a1, p58_3]
        rw [q2] at e2
        simp (disch := omega) only [p58_0, p58_1, p58_5, p58_6, p58_9, p58_10, p58_13, p58_14, p58_16, p58_19, p58_21, p58_23, p58_26, p58_27, p58_29, p58_30, p58_33, p58_34, p58_37, p58_38, p58_40, p58_41, p58_42, p58_45, p58_48, p58_51, jwd_c, jwd_0, Nat.reduceLeDiff, Nat.reduceEqDiff, Nat.reduceAdd, Nat.reduceSub, Nat.reduceMul, Int.reduceAdd, Int.reduceSub, Int.reduceMul, Int.reduceNeg, Int.reduceEq, Int.reduceLT, Int.reduceLE, jq_ldi_i, jq_ldl_l, jq_lda_a, jq_inc_i, jq_gs_t, jq_gsb_t, jq_gb_t, jq_gr_2, jq_gr_4, jq_gw_2, jq_s_t, jq_b_t, jg_c, jg_n, js_c, js_n, jrm_c, jrm_n, j2_i, j2_l, j2_a, jq_c_i, jq_c_l, jq_c_0, jq_c_n, jwd_le, jw_c0, mS_I, mS_R, mS_J, mN_I, mN_R, mN_J, mR_I, mI_R, mJ_I, mJ_R, mI_J, mR_J, ↓reduceIte, decide_true, or_true, true_or, and_self, false_or, or_false, reduceCtorEq, Bool.false_eq_true, and_false, false_and, eq_self, true_and, and_true, zero_ne, ↓br_lt_t, ↓br_lt_f, ↓br_eq_t, ↓br_eq_f, ↓br_lz_t, ↓br_lz_f, ↓br_ez_t, ↓br_ez_f, ↓br_gz_t, ↓br_gz_f, jw_id, jin_t, jix_t, ↓ite_t, ↓ite_f, hc1, hc3, s1, s2, e1, e2, e3, j3, jr]
      · have s4 : Sg w s 1 48 (H 1 0).toNat (fun c _ => gLw H Bk f k (fun x => P x ∨ x = T) c) := hs.mk2 (fun x j hx hj => by
          show gLw H Bk f k P x = gLw H Bk f k (fun x => P x ∨ x = T) x
          rw [pw x, if_neg (fun y => q2 y.2)])
        obtain ⟨u, a1, a2, a3⟩ := ih (t + 1) _ [(5, .inl T)] w hc s4 (by omega) (by omega) (Or.inr ⟨_, rfl⟩)
        refine ⟨u, ?_, a2.mk2 (fun x j hx hj => lw_cg (pe x)), a3⟩
        rw [← a1, p58_3]
        generalize gLw H Bk f k P T = V at *
        simp (disch := omega) only [p58_0, p58_1, p58_5, p58_6, p58_9, p58_10, p58_13, p58_14, p58_16, p58_19, p58_21, p58_23, p58_26, p58_27, p58_29, p58_30, p58_33, p58_34, p58_37, p58_38, p58_40, p58_41, p58_42, p58_45, p58_48, p58_51, jwd_c, jwd_0, Nat.reduceLeDiff, Nat.reduceEqDiff, Nat.reduceAdd, Nat.reduceSub, Nat.reduceMul, Int.reduceAdd, Int.reduceSub, Int.reduceMul, Int.reduceNeg, Int.reduceEq, Int.reduceLT, Int.reduceLE, jq_ldi_i, jq_ldl_l, jq_lda_a, jq_inc_i, jq_gs_t, jq_gsb_t, jq_gb_t, jq_gr_2, jq_gr_4, jq_gw_2, jq_s_t, jq_b_t, jg_c, jg_n, js_c, js_n, jrm_c, jrm_n, j2_i, j2_l, j2_a, jq_c_i, jq_c_l, jq_c_0, jq_c_n, jwd_le, jw_c0, mS_I, mS_R, mS_J, mN_I, mN_R, mN_J, mR_I, mI_R, mJ_I, mJ_R, mI_J, mR_J, ↓reduceIte, decide_true, or_true, true_or, and_self, false_or, or_false, reduceCtorEq, Bool.false_eq_true, and_false, false_and, eq_self, true_and, and_true, zero_ne, ↓br_lt_t, ↓br_lt_f, ↓br_eq_t, ↓br_eq_f, ↓br_lz_t, ↓br_lz_f, ↓br_ez_t, ↓br_ez_f, ↓br_gz_t, ↓br_gz_f, jw_id, jin_t, jix_t, ↓ite_t, ↓ite_f, hc1, hc3, s1, s2, e1, e2, j3, jr]
    · rw [ci_f q] at e1
      have pe : ∀ x, (P x ∨ ∃ s : Int, t + 1 ≤ s ∧ s < 4 ∧ gTo H i s = x ∧ gOpen H x) ↔ (P x ∨ ∃ s : Int, t ≤ s ∧ s < 4 ∧ gTo H i s = x ∧ gOpen H x) := by
        intro x
        constructor
        · rintro (z | ⟨s, a1, a2, a3, a4⟩)
          · exact Or.inl z
          · exact Or.inr ⟨s, by omega, a2, a3, a4⟩
        · rintro (z | ⟨s, a1, a2, a3, a4⟩)
          · exact Or.inl z
          · by_cases y : s = t
            · subst y
              rw [hT] at a3
              rw [← a3] at a4
              exact absurd a4 q
            · exact Or.inr ⟨s, by omega, a2, a3, a4⟩
      obtain ⟨u, a1, a2, a3⟩ := ih (t + 1) P [(5, .inl (-1))] w hc hs (by omega) (by omega) (Or.inr ⟨_, rfl⟩)
      refine ⟨u, ?_, a2.mk2 (fun x j hx hj => lw_cg (pe x)), a3⟩
      rw [← a1, p58_3]
      simp (disch := omega) only [p58_0, p58_1, p58_5, p58_6, p58_9, p58_10, p58_13, p58_14, p58_16, p58_19, p58_21, p58_23, p58_26, p58_27, p58_29, p58_30, p58_33, p58_34, p58_37, p58_38, p58_40, p58_41, p58_42, p58_45, p58_48, p58_51, jwd_c, jwd_0, Nat.reduceLeDiff, Nat.reduceEqDiff, Nat.reduceAdd, Nat.reduceSub, Nat.reduceMul, Int.reduceAdd, Int.reduceSub, Int.reduceMul, Int.reduceNeg, Int.reduceEq, Int.reduceLT, Int.reduceLE, jq_ldi_i, jq_ldl_l, jq_lda_a, jq_inc_i, jq_gs_t, jq_gsb_t, jq_gb_t, jq_gr_2, jq_gr_4, jq_gw_2, jq_s_t, jq_b_t, jg_c, jg_n, js_c, js_n, jrm_c, jrm_n, j2_i, j2_l, j2_a, jq_c_i, jq_c_l, jq_c_0, jq_c_n, jwd_le, jw_c0, mS_I, mS_R, mS_J, mN_I, mN_R, mN_J, mR_I, mI_R, mJ_I, mJ_R, mI_J, mR_J, ↓reduceIte, decide_true, or_true, true_or, and_self, false_or, or_false, reduceCtorEq, Bool.false_eq_true, and_false, false_and, eq_self, true_and, and_true, zero_ne, ↓br_lt_t, ↓br_lt_f, ↓br_eq_t, ↓br_eq_f, ↓br_lz_t, ↓br_lz_f, ↓br_ez_t, ↓br_ez_f, ↓br_gz_t, ↓br_gz_f, jw_id, jin_t, jix_t, ↓ite_t, ↓ite_f, hc1, hc3, s1, s2, e1, j3, jr]
/-- one ring -/
theorem ring_lp (hk : HOK H) (hf : gFrom H f) (hf2 : f < H 1 0) {s : Nat} (hd : s + 1 < b ∨ b + 14 < s) {k : Int} (k0 : 0 ≤ k) (k1 : k < 100) : ∀ (n : Nat) (i : Int) (w : jmW), SPc w b H → Sg w s 1 48 (H 1 0).toNat (fun c _ => gLw H Bk f k (gRe H Bk f k i) c) → 0 ≤ i → i + n = H 1 0 → ∃ u, rn 57 (72, [(0, jvr b), (1, .inl f), (2, jvr s), (3, .inl k), (4, .inl i)], [], w) = rn 57 (111, [(0, jvr b), (1, .inl f), (2, jvr s), (3, .inl k), (4, .inl (H 1 0))], [], u) ∧ Sg u s 1 48 (H 1 0).toNat (fun c _ => gLw H Bk f (k + 1) (fun _ => False) c) ∧ Fr (sP s) w u := by
  have kc := hk.1.2.2.2.2.2
  intro n
  induction n with
  | zero =>
    intro i w hc hs i1 i2
    have e : i = H 1 0 := by omega
    subst e
    have e0 := sg_count hc.2.2.2.1
    rw [show (((H 1 0).toNat : Nat) : Int) = H 1 0 by omega] at e0
    have s2 := hc.2.2.2.1.1
    have hc1 := hc.1
    have hc2 := hc.2.1
    refine ⟨w, ?_, hs.mk2 (fun c j hc hj => lw_next hk hf2 k0), Fr.rf _ _⟩
    rw [p57_72]
    simp (disch := omega) only [p57_0, p57_1, p57_2, p57_3, p57_4, p57_7, p57_10, p57_13, p57_14, p57_15, p57_16, p57_17, p57_18, p57_19, p57_22, p57_25, p57_27, p57_30, p57_31, p57_34, p57_37, p57_40, p57_41, p57_42, p57_45, p57_48, p57_49, p57_50, p57_51, p57_52, p57_53, p57_56, p57_57, p57_58, p57_59, p57_60, p57_63, p57_66, p57_69, p57_70, p57_74, p57_75, p57_78, p57_81, p57_84, p57_85, p57_87, p57_88, p57_91, p57_92, p57_95, p57_96, p57_98, p57_99, p57_100, p57_101, p57_102, p57_105, p57_108, p57_114, p57_117, jwd_c, jwd_0, Nat.reduceLeDiff, Nat.reduceEqDiff, Nat.reduceAdd, Nat.reduceSub, Nat.reduceMul, Int.reduceAdd, Int.reduceSub, Int.reduceMul, Int.reduceNeg, Int.reduceEq, Int.reduceLT, Int.reduceLE, jq_ldi_i, jq_ldl_l, jq_lda_a, jq_inc_i, jq_gs_t, jq_gsb_t, jq_gb_t, jq_gr_2, jq_gr_4, jq_gw_2, jq_s_t, jq_b_t, jg_c, jg_n, js_c, js_n, jrm_c, jrm_n, j2_i, j2_l, j2_a, jq_c_i, jq_c_l, jq_c_0, jq_c_n, jwd_le, jw_c0, mS_I, mS_R, mS_J, mN_I, mN_R, mN_J, mR_I, mI_R, mJ_I, mJ_R, mI_J, mR_J, ↓reduceIte, decide_true, or_true, true_or, and_self, false_or, or_false, reduceCtorEq, Bool.false_eq_true, and_false, false_and, eq_self, true_and, and_true, zero_ne, ↓br_lt_t, ↓br_lt_f, ↓br_eq_t, ↓br_eq_f, ↓br_lz_t, ↓br_lz_f, ↓br_ez_t, ↓br_ez_f, ↓br_gz_t, ↓br_gz_f, jw_id, jin_t, jix_t, ↓ite_t, ↓ite_f, hc1, hc2, s2, e0]
  | succ n ih =>
    intro i w hc hs i1 i2
    have e0 := sg_count hc.2.2.2.1
    rw [show (((H 1 0).toNat : Nat) : Int) = H 1 0 by omega] at e0
    have s1 := hs.1
    have s2 := hc.2.2.2.1.1
    have hc1 := hc.1
    have hc2 := hc.2.1
    have e1 := sg_in hs (l := i) (k := 0) i1 (by omega) (by omega) (by omega)
    rw [show ((i.toNat : Nat) : Int) = i by omega] at e1
    have lb := lw_bd (H := H) (Bk := Bk) (f := f) (P := gRe H Bk f k i) k0 (i := i)
    have li := lw_i (H := H) (Bk := Bk) (f := f) (P := gRe H Bk f k i) k0 (i := i)
    generalize gLw H Bk f k (gRe H Bk f k i) i = V at *
    by_cases q : V = k
    · have hD := li.mp q
      obtain ⟨w1, e2, s3, f3⟩ := reach_lp hk hf hd i1 (by omega) k0 k1 hD 4 0 (gRe H Bk f k i) [] w hc hs (by omega) (by omega) (Or.inl rfl)
      have s4 : Sg w1 s 1 48 (H 1 0).toNat (fun c _ => gLw H Bk f k (gRe H Bk f k (i + 1)) c) := s3.mk2 (fun x j hx hj => lw_cg ⟨by
        rintro (⟨p, s, a1, a2, a3⟩ | ⟨s, a1, a2, a3, a4⟩)
        · exact ⟨p, s, a1, by omega, a3⟩
        · exact ⟨i, s, i1, by omega, hD, a1, a2, a3, a4⟩, by
        rintro ⟨p, s, a1, a2, a3, a4⟩
        by_cases z : p = i
        · subst z
          exact Or.inr ⟨s, a4⟩
        · exact Or.inl ⟨p, s, a1, by omega, a3, a4⟩⟩)
      obtain ⟨u, a1, a2, a3⟩ := ih (i + 1) w1 (hc.fr f3 (fun x hx => sP_n (by omega))) s4 (by omega) (by omega)
      refine ⟨u, ?_, a2, f3.tr a3⟩
      rw [← a1, p57_72]
      have e3 : rn 58 (0, [(0, jvr b), (1, .inl i), (2, .inl (k + 1)), (3, jvr s)], [], w) = some (none, w1) := by
        rw [← e2]
        simp (disch := omega) only [p58_0, p58_1, p58_5, p58_6, p58_9, p58_10, p58_13, p58_14, p58_16, p58_19, p58_21, p58_23, p58_26, p58_27, p58_29, p58_30, p58_33, p58_34, p58_37, p58_38, p58_40, p58_41, p58_42, p58_45, p58_48, p58_51, jwd_c, jwd_0, Nat.reduceLeDiff, Nat.reduceEqDiff, Nat.reduceAdd, Nat.reduceSub, Nat.reduceMul, Int.reduceAdd, Int.reduceSub, Int.reduceMul, Int.reduceNeg, Int.reduceEq, Int.reduceLT, Int.reduceLE, jq_ldi_i, jq_ldl_l, jq_lda_a, jq_inc_i, jq_gs_t, jq_gsb_t, jq_gb_t, jq_gr_2, jq_gr_4, jq_gw_2, jq_s_t, jq_b_t, jg_c, jg_n, js_c, js_n, jrm_c, jrm_n, j2_i, j2_l, j2_a, jq_c_i, jq_c_l, jq_c_0, jq_c_n, jwd_le, jw_c0, mS_I, mS_R, mS_J, mN_I, mN_R, mN_J, mR_I, mI_R, mJ_I, mJ_R, mI_J, mR_J, ↓reduceIte, decide_true, or_true, true_or, and_self, false_or, or_false, reduceCtorEq, Bool.false_eq_true, and_false, false_and, eq_self, true_and, and_true, zero_ne]
      simp (disch := omega) only [p57_0, p57_1, p57_2, p57_3, p57_4, p57_7, p57_10, p57_13, p57_14, p57_15, p57_16, p57_17, p57_18, p57_19, p57_22, p57_25, p57_27, p57_30, p57_31, p57_34, p57_37, p57_40, p57_41, p57_42, p57_45, p57_48, p57_49, p57_50, p57_51, p57_52, p57_53, p57_56, p57_57, p57_58, p57_59, p57_60, p57_63, p57_66, p57_69, p57_70, p57_74, p57_75, p57_78, p57_81, p57_84, p57_85, p57_87, p57_88, p57_91, p57_92, p57_95, p57_96, p57_98, p57_99, p57_100, p57_101, p57_102, p57_105, p57_108, p57_114, p57_117, jwd_c, jwd_0, Nat.reduceLeDiff, Nat.reduceEqDiff, Nat.reduceAdd, Nat.reduceSub, Nat.reduceMul, Int.reduceAdd, Int.reduceSub, Int.reduceMul, Int.reduceNeg, Int.reduceEq, Int.reduceLT, Int.reduceLE, jq_ldi_i, jq_ldl_l, jq_lda_a, jq_inc_i, jq_gs_t, jq_gsb_t, jq_gb_t, jq_gr_2, jq_gr_4, jq_gw_2, jq_s_t, jq_b_t, jg_c, jg_n, js_c, js_n, jrm_c, jrm_n, j2_i, j2_l, j2_a, jq_c_i, jq_c_l, jq_c_0, jq_c_n, jwd_le, jw_c0, mS_I, mS_R, mS_J, mN_I, mN_R, mN_J, mR_I, mI_R, mJ_I, mJ_R, mI_J, mR_J, ↓reduceIte, decide_true, or_true, true_or, and_self, false_or, or_false, reduceCtorEq, Bool.false_eq_true, and_false, false_and, eq_self, true_and, and_true, zero_ne, ↓br_lt_t, ↓br_lt_f, ↓br_eq_t, ↓br_eq_f, ↓br_lz_t, ↓br_lz_f, ↓br_ez_t, ↓br_ez_f, ↓br_gz_t, ↓br_gz_f, jw_id, jin_t, jix_t, ↓ite_t, ↓ite_f, hc1, hc2, s1, s2, e0, e1, e3]
    · have hD : gDist H Bk f i ≠ k := fun z => q (li.mpr z)
      have s4 : Sg w s 1 48 (H 1 0).toNat (fun c _ => gLw H Bk f k (gRe H Bk f k (i + 1)) c) := hs.mk2 (fun x j hx hj => lw_cg ⟨by
        rintro ⟨p, s, a1, a2, a3⟩
        exact ⟨p, s, a1, by omega, a3⟩, by
        rintro ⟨p, s, a1, a2, a3, a4⟩
        by_cases z : p = i
        · subst z
          exact absurd a3 hD
        · exact ⟨p, s, a1, by omega, a3, a4⟩⟩)
      obtain ⟨u, a1, a2, a3⟩ := ih (i + 1) w hc s4 (by omega) (by omega)
      refine ⟨u, ?_, a2, a3⟩
      rw [← a1, p57_72]
      simp (disch := omega) only [p57_0, p57_1, p57_2, p57_3, p57_4, p57_7, p57_10, p57_13, p57_14, p57_15, p57_16, p57_17, p57_18, p57_19, p57_22, p57_25, p57_27, p57_30, p57_31, p57_34, p57_37, p57_40, p57_41, p57_42, p57_45, p57_48, p57_49, p57_50, p57_51, p57_52, p57_53, p57_56, p57_57, p57_58, p57_59, p57_60, p57_63, p57_66, p57_69, p57_70, p57_74, p57_75, p57_78, p57_81, p57_84, p57_85, p57_87, p57_88, p57_91, p57_92, p57_95, p57_96, p57_98, p57_99, p57_100, p57_101, p57_102, p57_105, p57_108, p57_114, p57_117, jwd_c, jwd_0, Nat.reduceLeDiff, Nat.reduceEqDiff, Nat.reduceAdd, Nat.reduceSub, Nat.reduceMul, Int.reduceAdd, Int.reduceSub, Int.reduceMul, Int.reduceNeg, Int.reduceEq, Int.reduceLT, Int.reduceLE, jq_ldi_i, jq_ldl_l, jq_lda_a, jq_inc_i, jq_gs_t, jq_gsb_t, jq_gb_t, jq_gr_2, jq_gr_4, jq_gw_2, jq_s_t, jq_b_t, jg_c, jg_n, js_c, js_n, jrm_c, jrm_n, j2_i, j2_l, j2_a, jq_c_i, jq_c_l, jq_c_0, jq_c_n, jwd_le, jw_c0, mS_I, mS_R, mS_J, mN_I, mN_R, mN_J, mR_I, mI_R, mJ_I, mJ_R, mI_J, mR_J, ↓reduceIte, decide_true, or_true, true_or, and_self, false_or, or_false, reduceCtorEq, Bool.false_eq_true, and_false, false_and, eq_self, true_and, and_true, zero_ne, ↓br_lt_t, ↓br_lt_f, ↓br_eq_t, ↓br_eq_f, ↓br_lz_t, ↓br_lz_f, ↓br_ez_t, ↓br_ez_f, ↓br_gz_t, ↓br_gz_f, jw_id, jin_t, jix_t, ↓ite_t, ↓ite_f, hc1, hc2, s1, s2, e0, e1]
theorem rings_lp (hk : HOK H) (hf : gFrom H f) (hf2 : f < H 1 0) {s : Nat} (hd : s + 1 < b ∨ b + 14 < s) : ∀ (n : Nat) (k : Int) (tl : jmL) (w : jmW), SPc w b H → Sg w s 1 48 (H 1 0).toNat (fun c _ => gLw H Bk f k (fun _ => False) c) → 0 ≤ k → k + n = H 1 0 → t1p 4 tl → ∃ u, rn 57 (58, (0, jvr b) :: (1, .inl f) :: (2, jvr s) :: (3, .inl k) :: tl, [], w) = some (none, u) ∧ Sg u s 1 48 (H 1 0).toNat (fun c _ => gSp H Bk f c) ∧ Fr (sP s) w u := by
  have kc := hk.1.2.2.2.2.2
  intro n
  induction n with
  | zero =>
    intro k tl w hc hs k0 k2 ht
    have e : k = H 1 0 := by omega
    subst e
    have e0 := sg_count hc.2.2.2.1
    rw [show (((H 1 0).toNat : Nat) : Int) = H 1 0 by omega] at e0
    have s2 := hc.2.2.2.1.1
    have hc1 := hc.1
    have hc2 := hc.2.1
    refine ⟨w, ?_, hs.mk2 (fun c j hc hj => lw_end hk hf2), Fr.rf _ _⟩
    rw [p57_58]
    simp (disch := omega) only [p57_0, p57_1, p57_2, p57_3, p57_4, p57_7, p57_10, p57_13, p57_14, p57_15, p57_16, p57_17, p57_18, p57_19, p57_22, p57_25, p57_27, p57_30, p57_31, p57_34, p57_37, p57_40, p57_41, p57_42, p57_45, p57_48, p57_49, p57_50, p57_51, p57_52, p57_53, p57_56, p57_57, p57_59, p57_60, p57_63, p57_66, p57_69, p57_70, p57_74, p57_75, p57_78, p57_81, p57_84, p57_85, p57_87, p57_88, p57_91, p57_92, p57_95, p57_96, p57_98, p57_99, p57_100, p57_101, p57_102, p57_105, p57_108, p57_114, p57_117, jwd_c, jwd_0, Nat.reduceLeDiff, Nat.reduceEqDiff, Nat.reduceAdd, Nat.reduceSub, Nat.reduceMul, Int.reduceAdd, Int.reduceSub, Int.reduceMul, Int.reduceNeg, Int.reduceEq, Int.reduceLT, Int.reduceLE, jq_ldi_i, jq_ldl_l, jq_lda_a, jq_inc_i, jq_gs_t, jq_gsb_t, jq_gb_t, jq_gr_2, jq_gr_4, jq_gw_2, jq_s_t, jq_b_t, jg_c, jg_n, js_c, js_n, jrm_c, jrm_n, j2_i, j2_l, j2_a, jq_c_i, jq_c_l, jq_c_0, jq_c_n, jwd_le, jw_c0, mS_I, mS_R, mS_J, mN_I, mN_R, mN_J, mR_I, mI_R, mJ_I, mJ_R, mI_J, mR_J, ↓reduceIte, decide_true, or_true, true_or, and_self, false_or, or_false, reduceCtorEq, Bool.false_eq_true, and_false, false_and, eq_self, true_and, and_true, zero_ne, ↓br_lt_t, ↓br_lt_f, ↓br_eq_t, ↓br_eq_f, ↓br_lz_t, ↓br_lz_f, ↓br_ez_t, ↓br_ez_f, ↓br_gz_t, ↓br_gz_f, jw_id, jin_t, jix_t, ↓ite_t, ↓ite_f, hc1, hc2, s2, e0]
  | succ n ih =>
    intro k tl w hc hs k0 k2 ht
    have e0 := sg_count hc.2.2.2.1
    rw [show (((H 1 0).toNat : Nat) : Int) = H 1 0 by omega] at e0
    have s2 := hc.2.2.2.1.1
    have hc1 := hc.1
    have hc2 := hc.2.1
    have jr : ∀ a, a < 4 → jrm tl a = tl := by
      intro a ha
      rcases ht with rfl | ⟨x, rfl⟩
      · rfl
      · rw [jrm_c, if_neg (by dsimp only; omega), if_neg (by dsimp only; omega)]
        rfl
    have j3 := t1p_js ht
    have hs' : Sg w s 1 48 (H 1 0).toNat (fun c _ => gLw H Bk f k (gRe H Bk f k 0) c) := hs.mk2 (fun x j hx hj => lw_cg ⟨fun z => z.elim, fun ⟨p, s, a1, a2, _⟩ => by omega⟩)
    obtain ⟨w1, e1, s3, f3⟩ := ring_lp hk hf hf2 hd k0 (by omega) (H 1 0).toNat 0 w hc hs' (by omega) (by omega)
    obtain ⟨u, a1, a2, a3⟩ := ih (k + 1) [(4, .inl (H 1 0))] w1 (hc.fr f3 (fun x hx => sP_n (by omega))) s3 (by omega) (by omega) (Or.inr ⟨_, rfl⟩)
    refine ⟨u, ?_, a2, f3.tr a3⟩
    have e2 : rn 57 (58, (0, jvr b) :: (1, .inl f) :: (2, jvr s) :: (3, .inl k) :: tl, [], w) = rn 57 (72, [(0, jvr b), (1, .inl f), (2, jvr s), (3, .inl k), (4, .inl 0)], [], w) := by
      rw [p57_58]
      simp (disch := omega) only [p57_0, p57_1, p57_2, p57_3, p57_4, p57_7, p57_10, p57_13, p57_14, p57_15, p57_16, p57_17, p57_18, p57_19, p57_22, p57_25, p57_27, p57_30, p57_31, p57_34, p57_37, p57_40, p57_41, p57_42, p57_45, p57_48, p57_49, p57_50, p57_51, p57_52, p57_53, p57_56, p57_57, p57_59, p57_60, p57_63, p57_66, p57_69, p57_70, p57_74, p57_75, p57_78, p57_81, p57_84, p57_85, p57_87, p57_88, p57_91, p57_92, p57_95, p57_96, p57_98, p57_99, p57_100, p57_101, p57_102, p57_105, p57_108, p57_114, p57_117, jwd_c, jwd_0, Nat.reduceLeDiff, Nat.reduceEqDiff, Nat.reduceAdd, Nat.reduceSub, Nat.reduceMul, Int.reduceAdd, Int.reduceSub, Int.reduceMul, Int.reduceNeg, Int.reduceEq, Int.reduceLT, Int.reduceLE, jq_ldi_i, jq_ldl_l, jq_lda_a, jq_inc_i, jq_gs_t, jq_gsb_t, jq_gb_t, jq_gr_2, jq_gr_4, jq_gw_2, jq_s_t, jq_b_t, jg_c, jg_n, js_c, js_n, jrm_c, jrm_n, j2_i, j2_l, j2_a, jq_c_i, jq_c_l, jq_c_0, jq_c_n, jwd_le, jw_c0, mS_I, mS_R, mS_J, mN_I, mN_R, mN_J, mR_I, mI_R, mJ_I, mJ_R, mI_J, mR_J, ↓reduceIte, decide_true, or_true, true_or, and_self, false_or, or_false, reduceCtorEq, Bool.false_eq_true, and_false, false_and, eq_self, true_and, and_true, zero_ne, ↓br_lt_t, ↓br_lt_f, ↓br_eq_t, ↓br_eq_f, ↓br_lz_t, ↓br_lz_f, ↓br_ez_t, ↓br_ez_f, ↓br_gz_t, ↓br_gz_f, jw_id, jin_t, jix_t, ↓ite_t, ↓ite_f, hc1, hc2, s2, e0, j3, jr]
    rw [e2, e1, ← a1, p57_111]
    simp (disch := omega) only [p57_0, p57_1, p57_2, p57_3, p57_4, p57_7, p57_10, p57_13, p57_14, p57_15, p57_16, p57_17, p57_18, p57_19, p57_22, p57_25, p57_27, p57_30, p57_31, p57_34, p57_37, p57_40, p57_41, p57_42, p57_45, p57_48, p57_49, p57_50, p57_51, p57_52, p57_53, p57_56, p57_57, p57_59, p57_60, p57_63, p57_66, p57_69, p57_70, p57_74, p57_75, p57_78, p57_81, p57_84, p57_85, p57_87, p57_88, p57_91, p57_92, p57_95, p57_96, p57_98, p57_99, p57_100, p57_101, p57_102, p57_105, p57_108, p57_114, p57_117, jwd_c, jwd_0, Nat.reduceLeDiff, Nat.reduceEqDiff, Nat.reduceAdd, Nat.reduceSub, Nat.reduceMul, Int.reduceAdd, Int.reduceSub, Int.reduceMul, Int.reduceNeg, Int.reduceEq, Int.reduceLT, Int.reduceLE, jq_ldi_i, jq_ldl_l, jq_lda_a, jq_inc_i, jq_gs_t, jq_gsb_t, jq_gb_t, jq_gr_2, jq_gr_4, jq_gw_2, jq_s_t, jq_b_t, jg_c, jg_n, js_c, js_n, jrm_c, jrm_n, j2_i, j2_l, j2_a, jq_c_i, jq_c_l, jq_c_0, jq_c_n, jwd_le, jw_c0, mS_I, mS_R, mS_J, mN_I, mN_R, mN_J, mR_I, mI_R, mJ_I, mJ_R, mI_J, mR_J, ↓reduceIte, decide_true, or_true, true_or, and_self, false_or, or_false, reduceCtorEq, Bool.false_eq_true, and_false, false_and, eq_self, true_and, and_true, zero_ne, ↓br_lt_t, ↓br_lt_f, ↓br_eq_t, ↓br_eq_f, ↓br_lz_t, ↓br_lz_f, ↓br_ez_t, ↓br_ez_f, ↓br_gz_t, ↓br_gz_f, jw_id, jin_t, jix_t, ↓ite_t, ↓ite_f, jrm_c, jrm_n]
theorem spr_lp (hk : HOK H) {s : Nat} (hd : s + 1 < b ∨ b + 14 < s) : ∀ (n : Nat) (i : Int) (w : jmW), SPc w b H → Sg w s 1 48 (H 1 0).toNat (fun c _ => if (c : Int) < i then gBase Bk c else bi (Bk c)) → 0 ≤ i → i + n = H 1 0 → ∃ u, rn 57 (2, [(0, jvr b), (1, .inl f), (2, jvr s), (3, .inl i)], [], w) = rn 57 (40, [(0, jvr b), (1, .inl f), (2, jvr s), (3, .inl (H 1 0))], [], u) ∧ Sg u s 1 48 (H 1 0).toNat (fun c _ => gBase Bk c) ∧ Fr (sP s) w u := by
  have kc := hk.1.2.2.2.2.2
  intro n
  induction n with
  | zero =>
    intro i w hc hs i1 i2
    have e : i = H 1 0 := by omega
    subst e
    have e0 := sg_count hc.2.2.2.1
    rw [show (((H 1 0).toNat : Nat) : Int) = H 1 0 by omega] at e0
    have s2 := hc.2.2.2.1.1
    have hc1 := hc.1
    have hc2 := hc.2.1
    refine ⟨w, ?_, hs.mk2 (fun c j hc hj => if_pos (by omega)), Fr.rf _ _⟩
    rw [p57_2]
    simp (disch := omega) only [p57_0, p57_1, p57_3, p57_4, p57_7, p57_10, p57_13, p57_14, p57_15, p57_16, p57_17, p57_18, p57_19, p57_22, p57_25, p57_27, p57_30, p57_31, p57_34, p57_37, p57_41, p57_42, p57_45, p57_48, p57_49, p57_50, p57_51, p57_52, p57_53, p57_56, p57_57, p57_58, p57_59, p57_60, p57_63, p57_66, p57_69, p57_70, p57_72, p57_74, p57_75, p57_78, p57_81, p57_84, p57_85, p57_87, p57_88, p57_91, p57_92, p57_95, p57_96, p57_98, p57_99, p57_100, p57_101, p57_102, p57_105, p57_108, p57_111, p57_114, p57_117, jwd_c, jwd_0, Nat.reduceLeDiff, Nat.reduceEqDiff, Nat.reduceAdd, Nat.reduceSub, Nat.reduceMul, Int.reduceAdd, Int.reduceSub, Int.reduceMul, Int.reduceNeg, Int.reduceEq, Int.reduceLT, Int.reduceLE, jq_ldi_i, jq_ldl_l, jq_lda_a, jq_inc_i, jq_gs_t, jq_gsb_t, jq_gb_t, jq_gr_2, jq_gr_4, jq_gw_2, jq_s_t, jq_b_t, jg_c, jg_n, js_c, js_n, jrm_c, jrm_n, j2_i, j2_l, j2_a, jq_c_i, jq_c_l, jq_c_0, jq_c_n, jwd_le, jw_c0, mS_I, mS_R, mS_J, mN_I, mN_R, mN_J, mR_I, mI_R, mJ_I, mJ_R, mI_J, mR_J, ↓reduceIte, decide_true, or_true, true_or, and_self, false_or, or_false, reduceCtorEq, Bool.false_eq_true, and_false, false_and, eq_self, true_and, and_true, zero_ne, ↓br_lt_t, ↓br_lt_f, ↓br_eq_t, ↓br_eq_f, ↓br_lz_t, ↓br_lz_f, ↓br_ez_t, ↓br_ez_f, ↓br_gz_t, ↓br_gz_f, jw_id, jin_t, jix_t, ↓ite_t, ↓ite_f, hc1, hc2, s2, e0]
  | succ n ih =>
    intro i w hc hs i1 i2
    have e0 := sg_count hc.2.2.2.1
    rw [show (((H 1 0).toNat : Nat) : Int) = H 1 0 by omega] at e0
    have s1 := hs.1
    have s2 := hc.2.2.2.1.1
    have hc1 := hc.1
    have hc2 := hc.2.1
    have e1 := sg_in hs (l := i) (k := 0) i1 (by omega) (by omega) (by omega)
    rw [if_neg (show ¬ ((i.toNat : Nat) : Int) < i by omega), show ((i.toNat : Nat) : Int) = i by omega] at e1
    obtain ⟨w1, e2, s3, f3⟩ := sg_put (v := gBase Bk i) hs (l := i) (k := 0) i1 (by omega) (by omega) (by omega)
    have s4 : Sg w1 s 1 48 (H 1 0).toNat (fun c _ => if (c : Int) < i + 1 then gBase Bk c else bi (Bk c)) := s3.mk2 (fun x j hx hj => by
      show (if x = i.toNat ∧ j = (0 : Int).toNat then gBase Bk i else if (x : Int) < i then gBase Bk x else bi (Bk x)) = _
      by_cases z : x = i.toNat
      · rw [if_pos ⟨z, by show j = 0; omega⟩, if_pos (by omega), show (x : Int) = i by omega]
      · rw [if_neg (fun y => z y.1)]
        by_cases y : (x : Int) < i
        · rw [if_pos y, if_pos (by omega)]
        · rw [if_neg y, if_neg (by omega)])
    obtain ⟨u, a1, a2, a3⟩ := ih (i + 1) w1 (hc.fr f3 (fun x hx => sP_n (by omega))) s4 (by omega) (by omega)
    refine ⟨u, ?_, a2, f3.tr a3⟩
    rw [← a1, p57_2]
    by_cases q : Bk i
    · rw [bi_t q] at e1
      have eb : gBase Bk i = -2 := ci_t q
      rw [eb] at e2
      simp (disch := omega) only [p57_0, p57_1, p57_3, p57_4, p57_7, p57_10, p57_13, p57_14, p57_15, p57_16, p57_17, p57_18, p57_19, p57_22, p57_25, p57_27, p57_30, p57_31, p57_34, p57_37, p57_41, p57_42, p57_45, p57_48, p57_49, p57_50, p57_51, p57_52, p57_53, p57_56, p57_57, p57_58, p57_59, p57_60, p57_63, p57_66, p57_69, p57_70, p57_72, p57_74, p57_75, p57_78, p57_81, p57_84, p57_85, p57_87, p57_88, p57_91, p57_92, p57_95, p57_96, p57_98, p57_99, p57_100, p57_101, p57_102, p57_105, p57_108, p57_111, p57_114, p57_117, jwd_c, jwd_0, Nat.reduceLeDiff, Nat.reduceEqDiff, Nat.reduceAdd, Nat.reduceSub, Nat.reduceMul, Int.reduceAdd, Int.reduceSub, Int.reduceMul, Int.reduceNeg, Int.reduceEq, Int.reduceLT, Int.reduceLE, jq_ldi_i, jq_ldl_l, jq_lda_a, jq_inc_i, jq_gs_t, jq_gsb_t, jq_gb_t, jq_gr_2, jq_gr_4, jq_gw_2, jq_s_t, jq_b_t, jg_c, jg_n, js_c, js_n, jrm_c, jrm_n, j2_i, j2_l, j2_a, jq_c_i, jq_c_l, jq_c_0, jq_c_n, jwd_le, jw_c0, mS_I, mS_R, mS_J, mN_I, mN_R, mN_J, mR_I, mI_R, mJ_I, mJ_R, mI_J, mR_J, ↓reduceIte, decide_true, or_true, true_or, and_self, false_or, or_false, reduceCtorEq, Bool.false_eq_true, and_false, false_and, eq_self, true_and, and_true, zero_ne, ↓br_lt_t, ↓br_lt_f, ↓br_eq_t, ↓br_eq_f, ↓br_lz_t, ↓br_lz_f, ↓br_ez_t, ↓br_ez_f, ↓br_gz_t, ↓br_gz_f, jw_id, jin_t, jix_t, ↓ite_t, ↓ite_f, hc1, hc2, s1, s2, e0, e1, e2]
    · rw [bi_f q] at e1
      have eb : gBase Bk i = -1 := ci_f q
      rw [eb] at e2
      simp (disch := omega) only [p57_0, p57_1, p57_3, p57_4, p57_7, p57_10, p57_13, p57_14, p57_15, p57_16, p57_17, p57_18, p57_19, p57_22, p57_25, p57_27, p57_30, p57_31, p57_34, p57_37, p57_41, p57_42, p57_45, p57_48, p57_49, p57_50, p57_51, p57_52, p57_53, p57_56, p57_57, p57_58, p57_59, p57_60, p57_63, p57_66, p57_69, p57_70, p57_72, p57_74, p57_75, p57_78, p57_81, p57_84, p57_85, p57_87, p57_88, p57_91, p57_92, p57_95, p57_96, p57_98, p57_99, p57_100, p57_101, p57_102, p57_105, p57_108, p57_111, p57_114, p57_117, jwd_c, jwd_0, Nat.reduceLeDiff, Nat.reduceEqDiff, Nat.reduceAdd, Nat.reduceSub, Nat.reduceMul, Int.reduceAdd, Int.reduceSub, Int.reduceMul, Int.reduceNeg, Int.reduceEq, Int.reduceLT, Int.reduceLE, jq_ldi_i, jq_ldl_l, jq_lda_a, jq_inc_i, jq_gs_t, jq_gsb_t, jq_gb_t, jq_gr_2, jq_gr_4, jq_gw_2, jq_s_t, jq_b_t, jg_c, jg_n, js_c, js_n, jrm_c, jrm_n, j2_i, j2_l, j2_a, jq_c_i, jq_c_l, jq_c_0, jq_c_n, jwd_le, jw_c0, mS_I, mS_R, mS_J, mN_I, mN_R, mN_J, mR_I, mI_R, mJ_I, mJ_R, mI_J, mR_J, ↓reduceIte, decide_true, or_true, true_or, and_self, false_or, or_false, reduceCtorEq, Bool.false_eq_true, and_false, false_and, eq_self, true_and, and_true, zero_ne, ↓br_lt_t, ↓br_lt_f, ↓br_eq_t, ↓br_eq_f, ↓br_lz_t, ↓br_lz_f, ↓br_ez_t, ↓br_ez_f, ↓br_gz_t, ↓br_gz_f, jw_id, jin_t, jix_t, ↓ite_t, ↓ite_f, hc1, hc2, s1, s2, e0, e1, e2]
theorem h_spread (hk : HOK H) (hc : SPc w b H) {s : Nat} (hd : s + 1 < b ∨ b + 14 < s) (hs : Sg w s 1 48 (H 1 0).toNat (fun c _ => bi (Bk c))) (f1 : -2 ≤ f) (f2 : f < H 1 0) : ∃ u, rn 57 (0, [(0, jvr b), (1, .inl f), (2, jvr s)], [], w) = some (none, u) ∧ Sg u s 1 48 (H 1 0).toNat (fun c _ => gSp H Bk f c) ∧ Fr (sP s) w u := by
  have kc := hk.1.2.2.2.2.2
  obtain ⟨w1, e1, s1, f3⟩ := spr_lp (f := f) hk hd (H 1 0).toNat 0 w hc (hs.mk2 (fun x j hx hj => (if_neg (by omega)).symm)) (by omega) (by omega)
  have hc1 := hc.fr f3 (fun x hx => sP_n (by omega))
  have eo := h_opn (w := w1) hc1.1 hc1.2.1 hc1.2.2.2.1 (by omega) (by omega) hk.2.2.2.1 f1 f2
  have x1 := s1.1
  have x2 := hc1.1
  have e0 : rn 57 (0, [(0, jvr b), (1, .inl f), (2, jvr s)], [], w) = rn 57 (40, [(0, jvr b), (1, .inl f), (2, jvr s), (3, .inl (H 1 0))], [], w1) := by
    rw [← e1]
    simp (disch := omega) only [p57_0, p57_1, p57_3, p57_4, p57_7, p57_10, p57_13, p57_14, p57_15, p57_16, p57_17, p57_18, p57_19, p57_22, p57_25, p57_27, p57_30, p57_31, p57_34, p57_37, p57_41, p57_42, p57_45, p57_48, p57_49, p57_50, p57_51, p57_52, p57_53, p57_56, p57_57, p57_58, p57_59, p57_60, p57_63, p57_66, p57_69, p57_70, p57_72, p57_74, p57_75, p57_78, p57_81, p57_84, p57_85, p57_87, p57_88, p57_91, p57_92, p57_95, p57_96, p57_98, p57_99, p57_100, p57_101, p57_102, p57_105, p57_108, p57_111, p57_114, p57_117, jwd_c, jwd_0, Nat.reduceLeDiff, Nat.reduceEqDiff, Nat.reduceAdd, Nat.reduceSub, Nat.reduceMul, Int.reduceAdd, Int.reduceSub, Int.reduceMul, Int.reduceNeg, Int.reduceEq, Int.reduceLT, Int.reduceLE, jq_ldi_i, jq_ldl_l, jq_lda_a, jq_inc_i, jq_gs_t, jq_gsb_t, jq_gb_t, jq_gr_2, jq_gr_4, jq_gw_2, jq_s_t, jq_b_t, jg_c, jg_n, js_c, js_n, jrm_c, jrm_n, j2_i, j2_l, j2_a, jq_c_i, jq_c_l, jq_c_0, jq_c_n, jwd_le, jw_c0, mS_I, mS_R, mS_J, mN_I, mN_R, mN_J, mR_I, mI_R, mJ_I, mJ_R, mI_J, mR_J, ↓reduceIte, decide_true, or_true, true_or, and_self, false_or, or_false, reduceCtorEq, Bool.false_eq_true, and_false, false_and, eq_self, true_and, and_true, zero_ne, ↓br_lt_t, ↓br_lt_f, ↓br_eq_t, ↓br_eq_f, ↓br_lz_t, ↓br_lz_f, ↓br_ez_t, ↓br_ez_f, ↓br_gz_t, ↓br_gz_f, jw_id, jin_t, jix_t]
  rw [e0]
  by_cases q : gFrom H f
  · rw [bi_t q] at eo
    obtain ⟨w2, e2, s2, f4⟩ := sg_put (v := 0) s1 (l := f) (k := 0) q.1 (by have := q.1; omega) (by omega) (by omega)
    have q1 := q.1
    have s3 : Sg w2 s 1 48 (H 1 0).toNat (fun c _ => gLw H Bk f 0 (fun _ => False) c) := s2.mk2 (fun x j hx hj => by
      show (if x = f.toNat ∧ j = (0 : Int).toNat then 0 else gBase Bk x) = gLw H Bk f 0 (fun _ => False) x
      rw [← lw_0 q]
      by_cases z : x = f.toNat
      · rw [if_pos ⟨z, by show j = 0; omega⟩, if_pos (by omega)]
      · rw [if_neg (fun y => z y.1), if_neg (by omega)])
    obtain ⟨u, a1, a2, a3⟩ := rings_lp hk q f2 hd (H 1 0).toNat 0 [] w2 (hc1.fr f4 (fun x hx => sP_n (by omega))) s3 (by omega) (by omega) (Or.inl rfl)
    refine ⟨u, ?_, a2, (f3.tr f4).tr a3⟩
    rw [← a1, p57_40]
    simp (disch := omega) only [p57_0, p57_1, p57_3, p57_4, p57_7, p57_10, p57_13, p57_14, p57_15, p57_16, p57_17, p57_18, p57_19, p57_22, p57_25, p57_27, p57_30, p57_31, p57_34, p57_37, p57_41, p57_42, p57_45, p57_48, p57_49, p57_50, p57_51, p57_52, p57_53, p57_56, p57_57, p57_59, p57_60, p57_63, p57_66, p57_69, p57_70, p57_72, p57_74, p57_75, p57_78, p57_81, p57_84, p57_85, p57_87, p57_88, p57_91, p57_92, p57_95, p57_96, p57_98, p57_99, p57_100, p57_101, p57_102, p57_105, p57_108, p57_111, p57_114, p57_117, jwd_c, jwd_0, Nat.reduceLeDiff, Nat.reduceEqDiff, Nat.reduceAdd, Nat.reduceSub, Nat.reduceMul, Int.reduceAdd, Int.reduceSub, Int.reduceMul, Int.reduceNeg, Int.reduceEq, Int.reduceLT, Int.reduceLE, jq_ldi_i, jq_ldl_l, jq_lda_a, jq_inc_i, jq_gs_t, jq_gsb_t, jq_gb_t, jq_gr_2, jq_gr_4, jq_gw_2, jq_s_t, jq_b_t, jg_c, jg_n, js_c, js_n, jrm_c, jrm_n, j2_i, j2_l, j2_a, jq_c_i, jq_c_l, jq_c_0, jq_c_n, jwd_le, jw_c0, mS_I, mS_R, mS_J, mN_I, mN_R, mN_J, mR_I, mI_R, mJ_I, mJ_R, mI_J, mR_J, ↓reduceIte, decide_true, or_true, true_or, and_self, false_or, or_false, reduceCtorEq, Bool.false_eq_true, and_false, false_and, eq_self, true_and, and_true, zero_ne, ↓br_lt_t, ↓br_lt_f, ↓br_eq_t, ↓br_eq_f, ↓br_lz_t, ↓br_lz_f, ↓br_ez_t, ↓br_ez_f, ↓br_gz_t, ↓br_gz_f, jw_id, jin_t, jix_t, eo, x1, x2, e2]
  · rw [bi_f q] at eo
    refine ⟨w1, ?_, s1.mk2 (fun x j hx hj => ?_), f3⟩
    · rw [p57_40]
      simp (disch := omega) only [p57_0, p57_1, p57_3, p57_4, p57_7, p57_10, p57_13, p57_14, p57_15, p57_16, p57_17, p57_18, p57_19, p57_22, p57_25, p57_27, p57_30, p57_31, p57_34, p57_37, p57_41, p57_42, p57_45, p57_48, p57_49, p57_50, p57_51, p57_52, p57_53, p57_56, p57_57, p57_59, p57_60, p57_63, p57_66, p57_69, p57_70, p57_72, p57_74, p57_75, p57_78, p57_81, p57_84, p57_85, p57_87, p57_88, p57_91, p57_92, p57_95, p57_96, p57_98, p57_99, p57_100, p57_101, p57_102, p57_105, p57_108, p57_111, p57_114, p57_117, jwd_c, jwd_0, Nat.reduceLeDiff, Nat.reduceEqDiff, Nat.reduceAdd, Nat.reduceSub, Nat.reduceMul, Int.reduceAdd, Int.reduceSub, Int.reduceMul, Int.reduceNeg, Int.reduceEq, Int.reduceLT, Int.reduceLE, jq_ldi_i, jq_ldl_l, jq_lda_a, jq_inc_i, jq_gs_t, jq_gsb_t, jq_gb_t, jq_gr_2, jq_gr_4, jq_gw_2, jq_s_t, jq_b_t, jg_c, jg_n, js_c, js_n, jrm_c, jrm_n, j2_i, j2_l, j2_a, jq_c_i, jq_c_l, jq_c_0, jq_c_n, jwd_le, jw_c0, mS_I, mS_R, mS_J, mN_I, mN_R, mN_J, mR_I, mI_R, mJ_I, mJ_R, mI_J, mR_J, ↓reduceIte, decide_true, or_true, true_or, and_self, false_or, or_false, reduceCtorEq, Bool.false_eq_true, and_false, false_and, eq_self, true_and, and_true, zero_ne, ↓br_lt_t, ↓br_lt_f, ↓br_eq_t, ↓br_eq_f, ↓br_lz_t, ↓br_lz_f, ↓br_ez_t, ↓br_ez_f, ↓br_gz_t, ↓br_gz_f, jw_id, jin_t, jix_t, eo, x2]
    · have : gDist H Bk f x = -2 := by
        rcases gDist_ds H Bk f x with ⟨h0, -⟩ | ⟨h1, -⟩
        · exact absurd h0 q
        · exact h1
      unfold gSp
      rw [if_neg (by omega)]
end SPREAD
