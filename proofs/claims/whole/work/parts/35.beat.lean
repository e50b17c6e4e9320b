/-! The model: a beat. -/
noncomputable def gFA : Nat → Int → (Nat → Int) × (Nat → Int) → (Nat → Int) × (Nat → Int)
  | 0, _, p => p
  | n + 1, i, p => gFA n (i + 1) (up1 p.1 (220 + i).toNat (gFp p.1 i), up1 p.2 (p.1 (204 + i).toNat).toNat (p.2 (p.1 (204 + i).toNat).toNat + (gFp p.1 i - p.1 (220 + i).toNat)))
noncomputable def gAA (H : Nat → Nat → Int) : Nat → Int → Int × (Nat → Int) → Int × (Nat → Int)
  | 0, _, p => p
  | n + 1, t, p => gAA H n (t + 1) (p.1 + (gAsk H p.2 t).1, (gAsk H p.2 t).2)
noncomputable def gSteps (H : Nat → Nat → Int) (r : Nat → Int) (al st : Int) : Int := if st = 0 then (if 0 < al then al else H 27 (r 294 % H 0 5).toNat) else 0
noncomputable def gB0 (H : Nat → Nat → Int) (L : Int) (S : Nat → Int) (n : Nat) (r g : Nat → Int) : (Nat → Int) × (Nat → Int) := (up1 (gGo H L S n r) 220 (gGo H L S n r 288 - 1), up1 g (gGo H L S n r 204).toNat (g (gGo H L S n r 204).toNat + (gGo H L S n r 288 - r 288)))
noncomputable def gB2 (r : Nat → Int) (o : Int) : (Nat → Int) × Int × Int := if gTi r < r 289 then (up1 r 289 (gTi r), o + (r 289 - gTi r), r (204 + gTi r).toNat) else (r, o, -1)
abbrev gX : Type := (Nat → Int) × (Nat → Int) × Int × Int × Int
noncomputable def gB5 (H : Nat → Nat → Int) (j : Int) (g : Nat → Int) (z : (Nat → Int) × Int × Int) : gX := ((gAA H (H 0 3).toNat 0 (j, gAu H (z.1 289 - 1).toNat z.1)).2, g, z.2.1, (gAA H (H 0 3).toNat 0 (j, gAu H (z.1 289 - 1).toNat z.1)).1, z.2.2)
noncomputable def gB1 (H : Nat → Nat → Int) (o j : Int) (p : (Nat → Int) × (Nat → Int)) : gX := if p.1 297 = 1 then (p.1, p.2, o, j, -1) else gB5 H j (gFA (p.1 289 - 1).toNat 1 p).2 (gB2 (gFA (p.1 289 - 1).toNat 1 p).1 o)
noncomputable def gBeat (H : Nat → Nat → Int) (L : Int) (S : Nat → Int) (al st : Int) (x : gX) : gX := if 0 < gOver x.1 then (x.1, x.2.1, x.2.2.1, x.2.2.2.1, -1) else gB1 H x.2.2.1 x.2.2.2.1 (gB0 H L S (gSteps H x.1 al st).toNat (up1 x.1 294 (x.1 294 + 1)) x.2.1)
theorem up1_sw {α : Type} {f : Nat → α} {a b : Nat} {x y : α} (h : a < b) : up1 (up1 f b y) a x = up1 (up1 f a x) b y := by
  funext c
  unfold up1
  by_cases h1 : c = a
  · subst h1
    rw [if_pos rfl, if_neg (by omega), if_pos rfl]
  · rw [if_neg h1]
    by_cases h2 : c = b
    · rw [if_pos h2, if_pos h2]
    · rw [if_neg h2, if_neg h2, if_neg h1]
theorem uw_31 {f : Nat → Int} {a : Nat} {x y : Int} (h : a < 31) : up1 (up1 f 31 y) a x = up1 (up1 f a x) 31 y := up1_sw h
theorem uw_32 {f : Nat → Int} {a : Nat} {x y : Int} (h : a < 32) : up1 (up1 f 32 y) a x = up1 (up1 f a x) 32 y := up1_sw h
/-- the model's own numbers after a beat -/
def gO (O : Nat → Int) (x : gX) : Nat → Int := up1 (up1 (up1 O 30 x.2.2.2.2) 31 x.2.2.1) 32 x.2.2.2.1
section BEAT
variable {w : jmW} {a h : Nat} {H : Nat → Nat → Int} {r : Nat → Int} {B : Int} {L : Int} {S : Nat → Int}
theorem go_keep : ∀ (n : Nat) (r : Nat → Int) (B : Int), HOK H → L ≤ 12 → (∀ k, k < 12 → 0 ≤ S k ∧ S k ≤ 3) → RA H B r → RB r → RW H r → r 288 + n ≤ 204 → ∀ k : Nat, 204 ≤ k → k ≠ 288 → k ≠ 292 → k ≠ 293 → k ≠ 295 → k ≠ 297 → gGo H L S n r k = r k := by
  intro n
  induction n with
  | zero => intro r B hk l2 s1 ra rb rw0 hl k k1 k2 k3 k4 k5 k6; rfl
  | succ n ih =>
    intro r B hk l2 s1 ra rb rw0 hl k k1 k2 k3 k4 k5 k6
    have h16 := ra.1
    have e : gGo H L S (n + 1) r = if r 297 = 0 then gGo H L S n (gStep H L S r) else r := rfl
    rw [e]
    split
    · obtain ⟨p1, p2, p3, p4, p5⟩ := step_ok hk l2 s1 ra rb rw0 (by omega)
      rw [ih _ B hk l2 s1 p1 p2 p3 (by omega) k k1 k2 k3 k4 k5 k6]
      obtain ⟨o1, o2, o3⟩ := gLead_ok (H := H) (r := r) (L := L) (S := S) l2 s1 ra
      have h16b := o2.1
      unfold gStep
      split
      · exact o3 k k4 k5
      · unfold gPut gPut2
        rw [up1_n k3, up1_n k2]
        by_cases q : ¬ H 0 15 = 0 ∧ gCloses (gLead H L S r).2 (gTo H (gHere (gLead H L S r).2) (gLead H L S r).1)
        · rw [ci_t q]
          have y : up1 (gLead H L S r).2 297 1 288 = (gLead H L S r).2 288 := up1_n (by omega)
          have y2 := o3 288 (by omega) (by omega)
          rw [up1_n (by rw [y]; omega), up1_n k6]
          exact o3 k k4 k5
        · rw [ci_f q]
          have y2 := o3 288 (by omega) (by omega)
          rw [up1_n (by omega)]
          exact o3 k k4 k5
    · rfl
theorem b0_ok (hk : HOK H) (l2 : L ≤ 12) (s1 : ∀ k, k < 12 → 0 ≤ S k ∧ S k ≤ 3) (ra : RA H B r) (rb : RB r) (rw0 : RW H r) (rp : RP r) {n : Nat} (hl : r 288 + n ≤ 203) (g : Nat → Int) : RA H B (gB0 H L S n r g).1 ∧ RB (gB0 H L S n r g).1 ∧ RW H (gB0 H L S n r g).1 ∧ RP (gB0 H L S n r g).1 ∧ r 288 ≤ (gB0 H L S n r g).1 288 ∧ (gB0 H L S n r g).1 288 ≤ r 288 + n ∧ gGo H L S n r 204 = r 204 := by
  obtain ⟨o1, o2, o3, o4, o5⟩ := go_ok hk l2 s1 n r ra rb rw0 (by omega)
  have k := go_keep (L := L) (S := S) n r B hk l2 s1 ra rb rw0 (by omega)
  have h16 := ra.1
  have h16b := o1.1
  have e9 := k 289 (by omega) (by omega) (by omega) (by omega) (by omega) (by omega)
  unfold gB0
  dsimp only
  generalize gGo H L S n r = q at *
  have y8 : up1 q 220 (q 288 - 1) 288 = q 288 := up1_n (by omega)
  refine ⟨RA_c (fun k hk2 => up1_n (by omega)) o1, fun i i1 i2 => ?_, RW_c (fun k k1 => up1_n (by omega)) y8 o1 o3, ?_, by rw [y8]; exact o4, by rw [y8]; exact o5, k 204 (by omega) (by omega) (by omega) (by omega) (by omega) (by omega)⟩
  · rw [up1_n (by omega)] at i2
    have b := o2 i i1 i2
    rw [y8, up1_n (a := 220) (b := 290) (by omega), up1_n (b := (204 + i).toNat) (by omega), up1_n (b := (236 + i).toNat) (by omega), up1_n (b := (252 + i).toNat) (by omega), up1_n (b := (268 + i).toNat) (by omega)]
    by_cases z : i = 0
    · subst z
      have : up1 q 220 (q 288 - 1) (220 + (0 : Int)).toNat = q 288 - 1 := up1_s _ _ _
      rw [this]
      omega
    · rw [up1_n (b := (220 + i).toNat) (by omega)]
      exact b
  · refine ⟨by rw [y8]; exact up1_s _ _ _, fun i i1 i2 => ?_⟩
    rw [up1_n (by omega)] at i2
    rw [up1_n (b := (220 + i).toNat) (by omega), k (220 + i).toNat (by omega) (by omega) (by omega) (by omega) (by omega) (by omega)]
    have c := rp.2 i i1 (by omega)
    by_cases z : i = 1
    · subst z
      have : up1 q 220 (q 288 - 1) (220 + (1 : Int) - 1).toNat = q 288 - 1 := up1_s _ _ _
      have d : r (220 + (1 : Int) - 1).toNat = r 220 := rfl
      have d2 := rp.1
      rw [this]
      omega
    · rw [up1_n (b := (220 + i - 1).toNat) (by omega), k (220 + i - 1).toNat (by omega) (by omega) (by omega) (by omega) (by omega) (by omega)]
      exact c
theorem fol_ok (ra : RA H B r) (rb : RB r) (rw0 : RW H r) (rp : RP r) {i : Int} (i1 : 1 ≤ i) (i2 : i < r 289) : RA H B (up1 r (220 + i).toNat (gFp r i)) ∧ RB (up1 r (220 + i).toNat (gFp r i)) ∧ RW H (up1 r (220 + i).toNat (gFp r i)) ∧ RP (up1 r (220 + i).toNat (gFp r i)) := by
  have h16 := ra.1
  have c := rp.2 i i1 i2
  have b0 := rb i (by omega) i2
  have b1 := rb (i - 1) (by omega) (by omega)
  rw [show (220 + (i - 1)).toNat = (220 + i - 1).toNat by omega] at b1
  have d : r (220 + i).toNat ≤ gFp r i ∧ (gFp r i ≤ r (220 + i).toNat ∨ gFp r i ≤ r (220 + i - 1).toNat - 1) := gFol_bd (gTk r (r (236 + i).toNat)) (r (220 + i - 1).toNat - 1) 204 (r (220 + i).toNat) (r (252 + i).toNat)
  generalize gFp r i = p at *
  refine ⟨RA_c (fun k hk2 => up1_n (by omega)) ra, fun j j1 j2 => ?_, RW_c (fun k k1 => up1_n (by omega)) (up1_n (by omega)) ra rw0, ?_, fun j j1 j2 => ?_⟩
  · rw [up1_n (by omega)] at j2
    have b := rb j j1 j2
    rw [up1_n (b := 288) (by omega), up1_n (b := 290) (by omega), up1_n (b := (204 + j).toNat) (by omega), up1_n (b := (236 + j).toNat) (by omega), up1_n (b := (252 + j).toNat) (by omega), up1_n (b := (268 + j).toNat) (by omega)]
    by_cases z : j = i
    · subst z
      rw [up1_s]
      omega
    · rw [up1_n (b := (220 + j).toNat) (by omega)]
      exact b
  · rw [up1_n (by omega), up1_n (by omega)]
    exact rp.1
  · rw [up1_n (by omega)] at j2
    have e := rp.2 j j1 j2
    by_cases z : j = i
    · subst z
      rw [up1_s, up1_n (by omega)]
      omega
    · rw [up1_n (b := (220 + j).toNat) (by omega)]
      by_cases y : j - 1 = i
      · rw [show (220 + j - 1).toNat = (220 + i).toNat by omega, up1_s]
        rw [show (220 + j - 1).toNat = (220 + i).toNat by omega] at e
        omega
      · rw [up1_n (b := (220 + j - 1).toNat) (by omega)]
        exact e
theorem fa_ok : ∀ (n : Nat) (i : Int) (r g : Nat → Int), RA H B r → RB r → RW H r → RP r → 1 ≤ i → i + n = r 289 → RA H B (gFA n i (r, g)).1 ∧ RB (gFA n i (r, g)).1 ∧ RW H (gFA n i (r, g)).1 ∧ RP (gFA n i (r, g)).1 ∧ (∀ k : Nat, (k < 220 ∨ 236 ≤ k) → (gFA n i (r, g)).1 k = r k) := by
  intro n
  induction n with
  | zero => intro i r g ra rb rw0 rp i1 i2; exact ⟨ra, rb, rw0, rp, fun k hk => rfl⟩
  | succ n ih =>
    intro i r g ra rb rw0 rp i1 i2
    have h16 := ra.1
    obtain ⟨o1, o2, o3, o4⟩ := fol_ok ra rb rw0 rp i1 (by omega)
    obtain ⟨p1, p2, p3, p4, p5⟩ := ih (i + 1) (up1 r (220 + i).toNat (gFp r i)) (up1 g (r (204 + i).toNat).toNat (g (r (204 + i).toNat).toNat + (gFp r i - r (220 + i).toNat))) o1 o2 o3 o4 (by omega) (by rw [up1_n (by omega)]; omega)
    refine ⟨p1, p2, p3, p4, fun k hk => (p5 k hk).trans (up1_n (by omega))⟩
theorem fa_loop (hm : MO w) (hh : MH w h H) (h3 : mR w 238 3 = some h) (ha : a = 241 ∨ a = 242) (hs : mS w a = (2, 0, 298)) (hk : HOK H) {st sp : Int} : ∀ (n : Nat) (i : Int) (r g : Nat → Int), RA H B r → RB r → RW H r → RP r → 1 ≤ i → i + n = r 289 → rn 238 (85, [(0, jvr 238), (1, jvr a), (2, .inl st), (3, .inl sp), (4, .inl i)], [], setA (setA w a r) 248 g) = rn 238 (108, [(0, jvr 238), (1, jvr a), (2, .inl st), (3, .inl sp), (4, .inl (i + n))], [], setA (setA w a (gFA n i (r, g)).1) 248 (gFA n i (r, g)).2) := by
  intro n
  induction n with
  | zero =>
    intro i r g ra rb rw0 rp i1 i2
    have h16 := ra.1
    have e : gFA 0 i (r, g) = (r, g) := rfl
    have e2 : i + ((0 : Nat) : Int) = i := by omega
    rw [e, e2, p238_85]
    simp (disch := omega) only [p238_0, p238_1, p238_2, p238_5, p238_6, p238_9, p238_12, p238_13, p238_14, p238_17, p238_18, p238_21, p238_22, p238_25, p238_28, p238_29, p238_32, p238_35, p238_36, p238_39, p238_42, p238_43, p238_46, p238_47, p238_48, p238_51, p238_54, p238_55, p238_56, p238_57, p238_58, p238_61, p238_62, p238_63, p238_64, p238_65, p238_66, p238_67, p238_68, p238_69, p238_72, p238_73, p238_76, p238_77, p238_78, p238_81, p238_82, p238_83, p238_87, p238_88, p238_91, p238_92, p238_95, p238_96, p238_97, p238_99, p238_102, p238_105, p238_109, p238_110, p238_111, p238_114, p238_117, p238_118, p238_119, p238_122, p238_123, p238_127, p238_128, p238_131, p238_134, p238_137, p238_138, p238_139, p238_141, p238_144, p238_147, p238_150, jwd_c, jwd_0, Nat.reduceLeDiff, Nat.reduceEqDiff, Nat.reduceAdd, Nat.reduceSub, Nat.reduceMul, Int.reduceAdd, Int.reduceSub, Int.reduceMul, Int.reduceNeg, Int.reduceEq, Int.reduceLT, Int.reduceLE, jq_ldi_i, jq_ldl_l, jq_lda_a, jq_inc_i, jq_gs_t, jq_gsb_t, jq_gb_t, jq_gr_2, jq_gr_4, jq_gw_2, jq_s_t, jq_b_t, jg_c, jg_n, js_c, js_n, jrm_c, jrm_n, j2_i, j2_l, j2_a, jq_c_i, jq_c_l, jq_c_0, jq_c_n, jwd_le, jw_c0, mS_I, mS_R, mS_J, mN_I, mN_R, mN_J, mR_I, mI_R, mJ_I, mJ_R, mI_J, mR_J, ↓reduceIte, decide_true, or_true, true_or, and_self, false_or, or_false, reduceCtorEq, Bool.false_eq_true, and_false, false_and, eq_self, true_and, and_true, zero_ne, ↓br_lt_t, ↓br_lt_f, ↓br_eq_t, ↓br_eq_f, ↓br_lz_t, ↓br_lz_f, ↓br_ez_t, ↓br_ez_f, ↓br_gz_t, ↓br_gz_f, jw_id, jin_t, jix_t, mI_A, mI_nA, up1_s, up1_n, mS_A, mR_A, mJ_A, mN_A, setI_A, setA_A, sw_238, sw_239, sw_240, sw_241, sw_242, sw_243, sw_244, sw_245, sw_246, sw_247, sw_248, sw_249, sw_250, sw_251, Int.reduceToNat, Int.toNat_natCast, hs]
  | succ n ih =>
    intro i r g ra rb rw0 rp i1 i2
    have h16 := ra.1
    obtain ⟨o1, o2, o3, o4⟩ := fol_ok ra rb rw0 rp i1 (by omega)
    have e1 := m_fol hm hh h3 ha hs hk ra rb rw0 i1 (by omega) g
    have e2 := ih (i + 1) (up1 r (220 + i).toNat (gFp r i)) (up1 g (r (204 + i).toNat).toNat (g (r (204 + i).toNat).toNat + (gFp r i - r (220 + i).toNat))) o1 o2 o3 o4 (by omega) (by rw [up1_n (by omega)]; omega)
    have e3 : gFA (n + 1) i (r, g) = gFA n (i + 1) (up1 r (220 + i).toNat (gFp r i), up1 g (r (204 + i).toNat).toNat (g (r (204 + i).toNat).toNat + (gFp r i - r (220 + i).toNat))) := rfl
    have e4 : i + ((n + 1 : Nat) : Int) = i + 1 + (n : Int) := by omega
    rw [e3, e4, ← e2, p238_85]
    simp (disch := omega) only [p238_0, p238_1, p238_2, p238_5, p238_6, p238_9, p238_12, p238_13, p238_14, p238_17, p238_18, p238_21, p238_22, p238_25, p238_28, p238_29, p238_32, p238_35, p238_36, p238_39, p238_42, p238_43, p238_46, p238_47, p238_48, p238_51, p238_54, p238_55, p238_56, p238_57, p238_58, p238_61, p238_62, p238_63, p238_64, p238_65, p238_66, p238_67, p238_68, p238_69, p238_72, p238_73, p238_76, p238_77, p238_78, p238_81, p238_82, p238_83, p238_87, p238_88, p238_91, p238_92, p238_95, p238_96, p238_97, p238_99, p238_102, p238_105, p238_109, p238_110, p238_111, p238_114, p238_117, p238_118, p238_119, p238_122, p238_123, p238_127, p238_128, p238_131, p238_134, p238_137, p238_138, p238_139, p238_141, p238_144, p238_147, p238_150, jwd_c, jwd_0, Nat.reduceLeDiff, Nat.reduceEqDiff, Nat.reduceAdd, Nat.reduceSub, Nat.reduceMul, Int.reduceAdd, Int.reduceSub, Int.reduceMul, Int.reduceNeg, Int.reduceEq, Int.reduceLT, Int.reduceLE, jq_ldi_i, jq_ldl_l, jq_lda_a, jq_inc_i, jq_gs_t, jq_gsb_t, jq_gb_t, jq_gr_2, jq_gr_4, jq_gw_2, jq_s_t, jq_b_t, jg_c, jg_n, js_c, js_n, jrm_c, jrm_n, j2_i, j2_l, j2_a, jq_c_i, jq_c_l, jq_c_0, jq_c_n, jwd_le, jw_c0, mS_I, mS_R, mS_J, mN_I, mN_R, mN_J, mR_I, mI_R, mJ_I, mJ_R, mI_J, mR_J, ↓reduceIte, decide_true, or_true, true_or, and_self, false_or, or_false, reduceCtorEq, Bool.false_eq_true, and_false, false_and, eq_self, true_and, and_true, zero_ne, ↓br_lt_t, ↓br_lt_f, ↓br_eq_t, ↓br_eq_f, ↓br_lz_t, ↓br_lz_f, ↓br_ez_t, ↓br_ez_f, ↓br_gz_t, ↓br_gz_f, jw_id, jin_t, jix_t, mI_A, mI_nA, up1_s, up1_n, mS_A, mR_A, mJ_A, mN_A, setI_A, setA_A, sw_238, sw_239, sw_240, sw_241, sw_242, sw_243, sw_244, sw_245, sw_246, sw_247, sw_248, sw_249, sw_250, sw_251, Int.reduceToNat, Int.toNat_natCast, MO.s0 hm, MO.s1 hm, MO.s2 hm, MO.s3 hm, MO.s4 hm, MO.s5 hm, MO.s6 hm, MO.s7 hm, MO.s8 hm, MO.s9 hm, MO.s10 hm, MO.s11 hm, MO.s12 hm, MO.s13 hm, MO.r1 hm, MO.r2 hm, MO.r3 hm, MO.r4 hm, MO.r5 hm, MO.r6 hm, MO.r7 hm, MO.r8 hm, MO.r9 hm, MO.r10 hm, MO.r11 hm, MO.r12 hm, MO.r13 hm, hs, e1]
theorem aa_ok (hk : HOK H) : ∀ (n : Nat) (t j : Int) (r : Nat → Int), RA H B r → RB r → RW H r → RP r → 0 ≤ t → t + n = H 0 3 → RA H B (gAA H n t (j, r)).2 ∧ RB (gAA H n t (j, r)).2 ∧ RW H (gAA H n t (j, r)).2 ∧ RP (gAA H n t (j, r)).2 ∧ (gAA H n t (j, r)).2 288 = r 288 ∧ (gAA H n t (j, r)).2 297 = r 297 ∧ j ≤ (gAA H n t (j, r)).1 ∧ (gAA H n t (j, r)).1 ≤ j + n := by
  intro n
  induction n with
  | zero => intro t j r ra rb rw0 rp t1 t2; exact ⟨ra, rb, rw0, rp, rfl, rfl, Int.le_refl _, by show j ≤ _; omega⟩
  | succ n ih =>
    intro t j r ra rb rw0 rp t1 t2
    obtain ⟨o0, o1, o2, o3, o4, o5, o6⟩ := ask_ok hk ra rb rw0 rp t1 (t := t) (by omega)
    obtain ⟨p1, p2, p3, p4, p5, p6, p7, p8⟩ := ih (t + 1) (j + (gAsk H r t).1) (gAsk H r t).2 o1 o2 o3 o4 (by omega) (by omega)
    exact ⟨p1, p2, p3, p4, p5.trans o5, p6.trans o6, by
      show j ≤ (gAA H n (t + 1) (j + (gAsk H r t).1, (gAsk H r t).2)).1
      omega, by
      show (gAA H n (t + 1) (j + (gAsk H r t).1, (gAsk H r t).2)).1 ≤ j + (n + 1 : Nat)
      omega⟩
theorem aa_loop (hm : MO w) (hh : MH w h H) (h3 : mR w 238 3 = some h) (ha : a = 241 ∨ a = 242) (hs : mS w a = (2, 0, 298)) (hk : HOK H) {st sp : Int} {O : Nat → Int} : ∀ (n : Nat) (t j : Int) (r : Nat → Int), RA H B r → RB r → RW H r → RP r → 0 ≤ t → t + n = H 0 3 → rn 238 (125, [(0, jvr 238), (1, jvr a), (2, .inl st), (3, .inl sp), (4, .inl t)], [], setA (setA w 238 (up1 O 32 j)) a r) = some (none, setA (setA w 238 (up1 O 32 (gAA H n t (j, r)).1)) a (gAA H n t (j, r)).2) := by
  have k3 := hk.2.1
  have hge := hh.ge
  intro n
  induction n with
  | zero =>
    intro t j r ra rb rw0 rp t1 t2
    have e : gAA H 0 t (j, r) = (j, r) := rfl
    rw [e, p238_125]
    simp (disch := omega) only [p238_0, p238_1, p238_2, p238_5, p238_6, p238_9, p238_12, p238_13, p238_14, p238_17, p238_18, p238_21, p238_22, p238_25, p238_28, p238_29, p238_32, p238_35, p238_36, p238_39, p238_42, p238_43, p238_46, p238_47, p238_48, p238_51, p238_54, p238_55, p238_56, p238_57, p238_58, p238_61, p238_62, p238_63, p238_64, p238_65, p238_66, p238_67, p238_68, p238_69, p238_72, p238_73, p238_76, p238_77, p238_78, p238_81, p238_82, p238_83, p238_87, p238_88, p238_91, p238_92, p238_95, p238_96, p238_97, p238_99, p238_102, p238_105, p238_109, p238_110, p238_111, p238_114, p238_117, p238_118, p238_119, p238_122, p238_123, p238_127, p238_128, p238_131, p238_134, p238_137, p238_138, p238_139, p238_141, p238_144, p238_147, p238_150, jwd_c, jwd_0, Nat.reduceLeDiff, Nat.reduceEqDiff, Nat.reduceAdd, Nat.reduceSub, Nat.reduceMul, Int.reduceAdd, Int.reduceSub, Int.reduceMul, Int.reduceNeg, Int.reduceEq, Int.reduceLT, Int.reduceLE, jq_ldi_i, jq_ldl_l, jq_lda_a, jq_inc_i, jq_gs_t, jq_gsb_t, jq_gb_t, jq_gr_2, jq_gr_4, jq_gw_2, jq_s_t, jq_b_t, jg_c, jg_n, js_c, js_n, jrm_c, jrm_n, j2_i, j2_l, j2_a, jq_c_i, jq_c_l, jq_c_0, jq_c_n, jwd_le, jw_c0, mS_I, mS_R, mS_J, mN_I, mN_R, mN_J, mR_I, mI_R, mJ_I, mJ_R, mI_J, mR_J, ↓reduceIte, decide_true, or_true, true_or, and_self, false_or, or_false, reduceCtorEq, Bool.false_eq_true, and_false, false_and, eq_self, true_and, and_true, zero_ne, ↓br_lt_t, ↓br_lt_f, ↓br_eq_t, ↓br_eq_f, ↓br_lz_t, ↓br_lz_f, ↓br_ez_t, ↓br_ez_f, ↓br_gz_t, ↓br_gz_f, jw_id, jin_t, jix_t, mI_A, mI_nA, up1_s, up1_n, mS_A, mR_A, mJ_A, mN_A, setI_A, setA_A, sw_238, sw_239, sw_240, sw_241, sw_242, sw_243, sw_244, sw_245, sw_246, sw_247, sw_248, sw_249, sw_250, sw_251, Int.reduceToNat, Int.toNat_natCast, MO.s0 hm, MO.s1 hm, MO.s2 hm, MO.s3 hm, MO.s4 hm, MO.s5 hm, MO.s6 hm, MO.s7 hm, MO.s8 hm, MO.s9 hm, MO.s10 hm, MO.s11 hm, MO.s12 hm, MO.s13 hm, MO.r1 hm, MO.r2 hm, MO.r3 hm, MO.r4 hm, MO.r5 hm, MO.r6 hm, MO.r7 hm, MO.r8 hm, MO.r9 hm, MO.r10 hm, MO.r11 hm, MO.r12 hm, MO.r13 hm, MH.s hh, MH.f3 hh, h3]
  | succ n ih =>
    intro t j r ra rb rw0 rp t1 t2
    obtain ⟨o0, o1, o2, o3, o4, o5, o6⟩ := ask_ok hk ra rb rw0 rp t1 (t := t) (by omega)
    have e1 := m_ask (w := setA (setA w 238 (up1 O 32 j)) a r) hm ((hh.A (by omega)).A (by omega)) h3 ha hs (mI_A _ _ _) hk ra rb rw0 t1 (by omega)
    have e2 := ih (t + 1) (j + (gAsk H r t).1) (gAsk H r t).2 o1 o2 o3 o4 (by omega) (by omega)
    have e3 : gAA H (n + 1) t (j, r) = gAA H n (t + 1) (j + (gAsk H r t).1, (gAsk H r t).2) := rfl
    have hsw : ∀ f g, setA (setA (setA w 238 f) a r) 238 g = setA (setA w 238 g) a r := by
      intro f g
      rw [sw_238 (by omega), setA_A]
    rw [e3, ← e2, p238_125]
    simp (disch := omega) only [mI_A, mI_nA, up1_s, up1_n, mS_A, mR_A, mJ_A, mN_A, setI_A, setA_A, sw_238, sw_239, sw_240, sw_241, sw_242, sw_243, sw_244, sw_245, sw_246, sw_247, sw_248, sw_249, sw_250, sw_251, Int.reduceToNat, Int.toNat_natCast, up1_up1] at e1
    simp (disch := omega) only [p238_0, p238_1, p238_2, p238_5, p238_6, p238_9, p238_12, p238_13, p238_14, p238_17, p238_18, p238_21, p238_22, p238_25, p238_28, p238_29, p238_32, p238_35, p238_36, p238_39, p238_42, p238_43, p238_46, p238_47, p238_48, p238_51, p238_54, p238_55, p238_56, p238_57, p238_58, p238_61, p238_62, p238_63, p238_64, p238_65, p238_66, p238_67, p238_68, p238_69, p238_72, p238_73, p238_76, p238_77, p238_78, p238_81, p238_82, p238_83, p238_87, p238_88, p238_91, p238_92, p238_95, p238_96, p238_97, p238_99, p238_102, p238_105, p238_109, p238_110, p238_111, p238_114, p238_117, p238_118, p238_119, p238_122, p238_123, p238_127, p238_128, p238_131, p238_134, p238_137, p238_138, p238_139, p238_141, p238_144, p238_147, p238_150, jwd_c, jwd_0, Nat.reduceLeDiff, Nat.reduceEqDiff, Nat.reduceAdd, Nat.reduceSub, Nat.reduceMul, Int.reduceAdd, Int.reduceSub, Int.reduceMul, Int.reduceNeg, Int.reduceEq, Int.reduceLT, Int.reduceLE, jq_ldi_i, jq_ldl_l, jq_lda_a, jq_inc_i, jq_gs_t, jq_gsb_t, jq_gb_t, jq_gr_2, jq_gr_4, jq_gw_2, jq_s_t, jq_b_t, jg_c, jg_n, js_c, js_n, jrm_c, jrm_n, j2_i, j2_l, j2_a, jq_c_i, jq_c_l, jq_c_0, jq_c_n, jwd_le, jw_c0, mS_I, mS_R, mS_J, mN_I, mN_R, mN_J, mR_I, mI_R, mJ_I, mJ_R, mI_J, mR_J, ↓reduceIte, decide_true, or_true, true_or, and_self, false_or, or_false, reduceCtorEq, Bool.false_eq_true, and_false, false_and, eq_self, true_and, and_true, zero_ne, ↓br_lt_t, ↓br_lt_f, ↓br_eq_t, ↓br_eq_f, ↓br_lz_t, ↓br_lz_f, ↓br_ez_t, ↓br_ez_f, ↓br_gz_t, ↓br_gz_f, jw_id, jin_t, jix_t, mI_A, mI_nA, up1_s, up1_n, mS_A, mR_A, mJ_A, mN_A, setI_A, setA_A, sw_238, sw_239, sw_240, sw_241, sw_242, sw_243, sw_244, sw_245, sw_246, sw_247, sw_248, sw_249, sw_250, sw_251, Int.reduceToNat, Int.toNat_natCast, MO.s0 hm, MO.s1 hm, MO.s2 hm, MO.s3 hm, MO.s4 hm, MO.s5 hm, MO.s6 hm, MO.s7 hm, MO.s8 hm, MO.s9 hm, MO.s10 hm, MO.s11 hm, MO.s12 hm, MO.s13 hm, MO.r1 hm, MO.r2 hm, MO.r3 hm, MO.r4 hm, MO.r5 hm, MO.r6 hm, MO.r7 hm, MO.r8 hm, MO.r9 hm, MO.r10 hm, MO.r11 hm, MO.r12 hm, MO.r13 hm, MH.s hh, MH.f3 hh, h3, e1]
end BEAT
