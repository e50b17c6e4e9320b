/-! The reader: words; what is expected, in the class. -/
def cD (L : List Nat) : Int := gCw (fun k => ((L.getD k 0 : Nat) : Int)) L.length
def gWi : List Int → Int → Int → Int
  | [], _, _ => -1
  | a :: t, c, i => if c = a then i else gWi t c (i + 1)
def gOf (f : Nat → Int) (len : Nat) : List Nat → Int → Nat → Bool → Int
  | [], wh, ln, sm => if sm = true ∧ ln = len then wh else -1
  | c :: t, wh, ln, sm => if c = 32 then (if sm = true ∧ ln = len then wh else gOf f len t (wh + 1) 0 true) else gOf f len t wh (ln + 1) (sm && decide (f ln = (c : Int)))
def gAl (f : Nat → Int) : Nat → List Nat → Bool
  | _, [] => true
  | ln, c :: t => decide (f ln = (c : Int)) && gAl f (ln + 1) t
def gJw : List (List Nat) → List Nat
  | [] => []
  | [u] => u
  | u :: v :: t => u ++ 32 :: gJw (v :: t)
/-- all letters, eight at most -/
def gLt (u : List Nat) : Bool := u.all (fun c => decide (97 ≤ c ∧ c ≤ 122))
/-- a place, or a fault and where -/
abbrev gSg : Type := Nat ⊕ (Int × Int)
section PURE
variable (T : Nat → Int) (n : Nat)
def pG : gSg → gSg
  | .inl p => .inl (tE T n p)
  | .inr x => .inr x
def pF (f : Int) : gSg → gSg
  | .inl p => .inr (f, tS T n p)
  | .inr x => .inr x
def pK : gSg → Int
  | .inl p => tK T n p
  | .inr _ => -1
def pI (ws : List Int) : gSg → Int
  | .inl p => if tK T n p = 1 then gWi ws (tW T n p) 0 else -1
  | .inr _ => -1
def pO (ws : List Int) : gSg → gSg
  | .inl p => if 0 ≤ pI T n ws (.inl p) then .inl (tE T n p) else .inr (1, tS T n p)
  | .inr x => .inr x
def pV (lo hi : Int) : gSg → Int
  | .inl p => if tK T n p = 2 ∧ lo ≤ tN T n p ∧ tN T n p ≤ hi then tN T n p else lo
  | .inr _ => lo
def pB (lo hi : Int) : gSg → gSg
  | .inl p => if tK T n p = 2 then (if lo ≤ tN T n p ∧ tN T n p ≤ hi then .inl p else .inr (4, tS T n p)) else .inr (1, tS T n p)
  | .inr x => .inr x
def pN (lo hi : Int) (s : gSg) : gSg := pG T n (pB T n lo hi s)
def pS (k : Int) : gSg → gSg
  | .inl p => if tK T n p = k then .inl (tE T n p) else .inr (1, tS T n p)
  | .inr x => .inr x
end PURE
def bl : gSg → Int
  | .inl _ => 1
  | .inr _ => 0
/-- the class stands so -/
def CSx (w : jmW) (T : Nat → Int) (n : Nat) : gSg → Prop
  | .inl p => tC w T n p
  | .inr x => mI w 101 10 = x.1 ∧ mI w 101 11 = x.2
/-- the constant texts -/
def SX (w : jmW) : Prop := ∀ k, k < 43 → (mS w (2 + k)).1 = 3 ∧ (mS w (2 + k)).2.1 = k
section WORDS
variable {w u : jmW} {T : Nat → Int} {n cnt : Nat}
theorem cw_pos {f : Nat → Int} : ∀ m : Nat, (∀ k, k < m → 97 ≤ f k ∧ f k ≤ 122) → 0 ≤ gCw f m ∧ (0 < m → 0 < gCw f m) := by
  intro m
  induction m with
  | zero =>
    intro h
    exact ⟨Int.le_refl _, fun z => by omega⟩
  | succ m ih =>
    intro h
    have e : gCw f (m + 1) = 32 * gCw f m + (f m - 97 + 1) := rfl
    have i := ih (fun k hk => h k (by omega))
    have hm := h m (by omega)
    omega
theorem cw_inj {f g : Nat → Int} : ∀ a b : Nat, (∀ k, k < a → 97 ≤ f k ∧ f k ≤ 122) → (∀ k, k < b → 97 ≤ g k ∧ g k ≤ 122) → gCw f a = gCw g b → a = b ∧ ∀ k, k < a → f k = g k := by
  intro a
  induction a with
  | zero =>
    intro b h1 h2 e
    have e0 : gCw f 0 = 0 := rfl
    have := (cw_pos b h2).2
    refine ⟨?_, fun k hk => by omega⟩
    by_cases z : 0 < b
    · have := this z
      omega
    · omega
  | succ a ih =>
    intro b h1 h2 e
    cases b with
    | zero =>
      have e0 : gCw g 0 = 0 := rfl
      have := (cw_pos (a + 1) h1).2 (by omega)
      omega
    | succ b =>
      have e1 : gCw f (a + 1) = 32 * gCw f a + (f a - 97 + 1) := rfl
      have e2 : gCw g (b + 1) = 32 * gCw g b + (g b - 97 + 1) := rfl
      have ha := h1 a (by omega)
      have hb := h2 b (by omega)
      obtain ⟨i1, i2⟩ := ih b (fun k hk => h1 k (by omega)) (fun k hk => h2 k (by omega)) (by omega)
      subst i1
      refine ⟨rfl, fun k hk => ?_⟩
      by_cases z : k = a
      · subst z
        omega
      · exact i2 k (by omega)
theorem cw_cg {f g : Nat → Int} : ∀ m : Nat, (∀ k, k < m → f k = g k) → gCw f m = gCw g m := by
  intro m
  induction m with
  | zero =>
    intro h
    rfl
  | succ m ih =>
    intro h
    have e1 : gCw f (m + 1) = 32 * gCw f m + (f m - 97 + 1) := rfl
    have e2 : gCw g (m + 1) = 32 * gCw g m + (g m - 97 + 1) := rfl
    rw [e1, e2, ih (fun k hk => h k (by omega)), h m (by omega)]
theorem al_iff {f : Nat → Int} : ∀ (u : List Nat) (ln : Nat), gAl f ln u = true ↔ ∀ k, k < u.length → f (ln + k) = ((u.getD k 0 : Nat) : Int) := by
  intro u
  induction u with
  | nil =>
    intro ln
    exact ⟨fun _ k hk => absurd hk (by simp), fun _ => rfl⟩
  | cons c t ih =>
    intro ln
    have e : gAl f ln (c :: t) = (decide (f ln = (c : Int)) && gAl f (ln + 1) t) := rfl
    rw [e, Bool.and_eq_true, decide_eq_true_iff, ih (ln + 1)]
    constructor
    · rintro ⟨h1, h2⟩ k hk
      cases k with
      | zero => exact h1
      | succ k =>
        have := h2 k (by simpa using hk)
        rw [show ln + (k + 1) = ln + 1 + k by omega]
        exact this
    · intro h
      refine ⟨h 0 (by simp), fun k hk => ?_⟩
      have := h (k + 1) (by simpa using hk)
      rw [show ln + 1 + k = ln + (k + 1) by omega]
      exact this
theorem of_app {f : Nat → Int} {len : Nat} : ∀ (u t : List Nat) (wh : Int) (ln : Nat) (sm : Bool), gLt u = true → gOf f len (u ++ t) wh ln sm = gOf f len t wh (ln + u.length) (sm && gAl f ln u) := by
  intro u
  induction u with
  | nil =>
    intro t wh ln sm h
    show gOf f len t wh ln sm = gOf f len t wh ln (sm && true)
    rw [Bool.and_true]
  | cons c u ih =>
    intro t wh ln sm h
    unfold gLt at h
    rw [List.all_cons, Bool.and_eq_true, decide_eq_true_iff] at h
    have e : gOf f len (c :: (u ++ t)) wh ln sm = if c = 32 then (if sm = true ∧ ln = len then wh else gOf f len (u ++ t) (wh + 1) 0 true) else gOf f len (u ++ t) wh (ln + 1) (sm && decide (f ln = (c : Int))) := rfl
    rw [List.cons_append, e, if_neg (by omega), ih _ _ _ _ h.2]
    have e2 : gAl f ln (c :: u) = (decide (f ln = (c : Int)) && gAl f (ln + 1) u) := rfl
    rw [e2, List.length_cons, Bool.and_assoc, show ln + 1 + u.length = ln + (u.length + 1) by omega]
theorem getD_at {L : List Nat} {k : Nat} (hk : k < L.length) : L.getD k 0 = L[k] := by
  rw [List.getD_eq_getElem?_getD, List.getElem?_eq_getElem hk]
  rfl
theorem lt_bd {u : List Nat} (h : gLt u = true) : ∀ k, k < u.length → 97 ≤ ((u.getD k 0 : Nat) : Int) ∧ ((u.getD k 0 : Nat) : Int) ≤ 122 := by
  intro k hk
  unfold gLt at h
  have := of_decide_eq_true (List.all_eq_true.mp h (u.getD k 0) (by
    rw [getD_at hk]
    exact List.getElem_mem hk))
  omega
/-- a word among words, by its number -/
theorem of_words {f : Nat → Int} {len : Nat} (hf : ∀ k, k < len → 97 ≤ f k ∧ f k ≤ 122) : ∀ (ws : List (List Nat)) (wh : Int), ws ≠ [] → (∀ u, u ∈ ws → gLt u = true) → gOf f len (gJw ws) wh 0 true = gWi (ws.map cD) (gCw f len) wh := by
  intro ws
  have key : ∀ u : List Nat, gLt u = true → ((gAl f 0 u = true ∧ u.length = len) ↔ gCw f len = cD u) := by
    intro u hu
    constructor
    · rintro ⟨h1, h2⟩
      have h3 := (al_iff u 0).mp h1
      unfold cD
      rw [← h2]
      exact cw_cg _ (fun k hk => by
        have := h3 k hk
        rw [Nat.zero_add] at this
        exact this)
    · intro e
      obtain ⟨h1, h2⟩ := cw_inj len u.length hf (lt_bd hu) e
      refine ⟨(al_iff u 0).mpr (fun k hk => ?_), h1.symm⟩
      rw [Nat.zero_add]
      exact h2 k (by omega)
  induction ws with
  | nil =>
    intro wh h1 h2
    exact absurd rfl h1
  | cons v t ih =>
    intro wh h1 h2
    have hv := h2 v (List.mem_cons_self)
    have e2 : gWi ((v :: t).map cD) (gCw f len) wh = if gCw f len = cD v then wh else gWi (t.map cD) (gCw f len) (wh + 1) := rfl
    rw [e2]
    cases t with
    | nil =>
      have e1 : gJw [v] = v ++ [] := (List.append_nil v).symm
      rw [e1, of_app v [] wh 0 true hv, Nat.zero_add, Bool.true_and]
      show (if gAl f 0 v = true ∧ v.length = len then wh else -1) = _
      by_cases z : gAl f 0 v = true ∧ v.length = len
      · rw [if_pos z, if_pos ((key v hv).mp z)]
      · rw [if_neg z, if_neg (fun y => z ((key v hv).mpr y))]
        rfl
    | cons v2 t2 =>
      have e1 : gJw (v :: v2 :: t2) = v ++ 32 :: gJw (v2 :: t2) := rfl
      rw [e1, of_app v _ wh 0 true hv, Nat.zero_add, Bool.true_and]
      show (if (32 : Nat) = 32 then (if gAl f 0 v = true ∧ v.length = len then wh else gOf f len (gJw (v2 :: t2)) (wh + 1) 0 true) else _) = _
      rw [if_pos rfl, ih (wh + 1) (by simp) (fun u hu => h2 u (List.mem_cons_of_mem _ hu))]
      by_cases z : gAl f 0 v = true ∧ v.length = len
      · rw [if_pos z, if_pos ((key v hv).mp z)]
      · rw [if_neg z, if_neg (fun y => z ((key v hv).mpr y))]
theorem drop_at {L t : List Nat} {i c : Nat} (h : L.drop i = c :: t) : i < L.length ∧ L.getD i 0 = c ∧ L.drop (i + 1) = t := by
  have h1 : i < L.length := by
    by_cases z : i < L.length
    · exact z
    · rw [List.drop_eq_nil_of_le (by omega)] at h
      cases h
  have h2 := List.drop_eq_getElem_cons h1
  rw [h] at h2
  have h3 := List.cons.inj h2
  exact ⟨h1, by rw [getD_at h1]; exact h3.1.symm, h3.2.symm⟩
theorem oo_lp (h : RC' w n cnt T) {s e : Nat} (h5 : mI w 101 5 = s) (h6 : mI w 101 6 = e) (hse : s ≤ e) (he : e ≤ n) {a k : Nat} (ha : (mS w a).1 = 3) (hk : (mS w a).2.1 = k) (hl : (jst k).length ≤ 60) : ∀ (L : List Nat) (i ln : Nat) (wh : Int) (sm : Bool) (tl : jmL), (jst k).drop i = L → (∀ c, c ∈ L → c < 128) → ln ≤ i → 0 ≤ wh → wh ≤ i → t1p 6 tl → i ≤ (jst k).length → rn 26 (10, (0, jvr 101) :: (1, jvr a) :: (2, .inl wh) :: (3, .inl (ln : Int)) :: (4, .inl (if sm = true then 1 else 0)) :: (5, .inl (i : Int)) :: tl, [], w) = some (some (.inl (gOf (fun k => if s + k < cnt then T (s + k) else 0) (e - s) L wh ln sm)), w) := by
  obtain ⟨a1, a2, a3, a4, a5, a6, a7, a8⟩ := h
  have h : RC' w n cnt T := ⟨a1, a2, a3, a4, a5, a6, a7, a8⟩
  have hc := a6.2.2.2.2.2.2.1
  have s65 := a6.1
  intro L
  induction L with
  | nil =>
    intro i ln wh sm tl hd hL hi h0 hw ht hil
    have hi2 : (jst k).length = i := by
      by_cases z : i < (jst k).length
      · have := List.drop_eq_getElem_cons z
        rw [hd] at this
        cases this
      · omega
    have e0 : gOf (fun k => if s + k < cnt then T (s + k) else 0) (e - s) [] wh ln sm = if sm = true ∧ ln = e - s then wh else -1 := rfl
    cases sm with
    | false =>
      have g0 := e0.trans (if_neg (fun z => absurd z.1 (by decide)))
      rw [g0, p26_10]
      simp (disch := omega) only [p26_0, p26_1, p26_2, p26_3, p26_4, p26_5, p26_7, p26_8, p26_12, p26_13, p26_16, p26_19, p26_20, p26_22, p26_25, p26_27, p26_29, p26_31, p26_34, p26_36, p26_39, p26_40, p26_43, p26_44, p26_47, p26_48, p26_49, p26_50, p26_53, p26_55, p26_58, p26_59, p26_63, p26_65, p26_68, p26_73, p26_76, p26_77, p26_78, p26_81, p26_82, p26_85, p26_86, p26_89, p26_90, p26_94, p26_95, p26_96, p26_97, p26_102, p26_107, p26_110, p26_111, p26_112, p26_115, p26_116, p26_119, p26_120, p26_123, p26_124, p26_127, p26_128, jwd_c, jwd_0, Nat.reduceLeDiff, Nat.reduceEqDiff, Nat.reduceAdd, Nat.reduceSub, Nat.reduceMul, Int.reduceAdd, Int.reduceSub, Int.reduceMul, Int.reduceNeg, Int.reduceEq, Int.reduceLT, Int.reduceLE, jq_ldi_i, jq_ldl_l, jq_lda_a, jq_inc_i, jq_gs_t, jq_gsb_t, jq_gb_t, jq_gr_2, jq_gr_4, jq_gw_2, jq_s_t, jq_b_t, jg_c, jg_n, js_c, js_n, jrm_c, jrm_n, j2_i, j2_l, j2_a, jq_c_i, jq_c_l, jq_c_0, jq_c_n, jwd_le, jw_c0, mS_I, mS_R, mS_J, mN_I, mN_R, mN_J, mR_I, mI_R, mJ_I, mJ_R, mI_J, mR_J, ↓reduceIte, decide_true, or_true, true_or, and_self, false_or, or_false, reduceCtorEq, Bool.false_eq_true, and_false, false_and, eq_self, true_and, and_true, zero_ne, ↓br_lt_t, ↓br_lt_f, ↓br_eq_t, ↓br_eq_f, ↓br_lz_t, ↓br_lz_f, ↓br_ez_t, ↓br_ez_f, ↓br_gz_t, ↓br_gz_f, jw_id, jin_t, jix_t, ↓ite_t, ↓ite_f, ha, hk, hi2]
      rw [p26_105]
      simp (disch := omega) only [p26_0, p26_1, p26_2, p26_3, p26_4, p26_5, p26_7, p26_8, p26_12, p26_13, p26_16, p26_19, p26_20, p26_22, p26_25, p26_27, p26_29, p26_31, p26_34, p26_36, p26_39, p26_40, p26_43, p26_44, p26_47, p26_48, p26_49, p26_50, p26_53, p26_55, p26_58, p26_59, p26_63, p26_65, p26_68, p26_73, p26_76, p26_77, p26_78, p26_81, p26_82, p26_85, p26_86, p26_89, p26_90, p26_94, p26_95, p26_96, p26_97, p26_102, p26_107, p26_110, p26_111, p26_112, p26_115, p26_116, p26_119, p26_120, p26_123, p26_124, p26_127, p26_128, jwd_c, jwd_0, Nat.reduceLeDiff, Nat.reduceEqDiff, Nat.reduceAdd, Nat.reduceSub, Nat.reduceMul, Int.reduceAdd, Int.reduceSub, Int.reduceMul, Int.reduceNeg, Int.reduceEq, Int.reduceLT, Int.reduceLE, jq_ldi_i, jq_ldl_l, jq_lda_a, jq_inc_i, jq_gs_t, jq_gsb_t, jq_gb_t, jq_gr_2, jq_gr_4, jq_gw_2, jq_s_t, jq_b_t, jg_c, jg_n, js_c, js_n, jrm_c, jrm_n, j2_i, j2_l, j2_a, jq_c_i, jq_c_l, jq_c_0, jq_c_n, jwd_le, jw_c0, mS_I, mS_R, mS_J, mN_I, mN_R, mN_J, mR_I, mI_R, mJ_I, mJ_R, mI_J, mR_J, ↓reduceIte, decide_true, or_true, true_or, and_self, false_or, or_false, reduceCtorEq, Bool.false_eq_true, and_false, false_and, eq_self, true_and, and_true, zero_ne, ↓br_lt_t, ↓br_lt_f, ↓br_eq_t, ↓br_eq_f, ↓br_lz_t, ↓br_lz_f, ↓br_ez_t, ↓br_ez_f, ↓br_gz_t, ↓br_gz_f, jw_id, jin_t, jix_t, ↓ite_t, ↓ite_f, Bool.false_eq_true]
    | true =>
      by_cases z : ln = e - s
      · have g0 := e0.trans (if_pos ⟨rfl, z⟩)
        rw [g0, p26_10]
        simp (disch := omega) only [p26_0, p26_1, p26_2, p26_3, p26_4, p26_5, p26_7, p26_8, p26_12, p26_13, p26_16, p26_19, p26_20, p26_22, p26_25, p26_27, p26_29, p26_31, p26_34, p26_36, p26_39, p26_40, p26_43, p26_44, p26_47, p26_48, p26_49, p26_50, p26_53, p26_55, p26_58, p26_59, p26_63, p26_65, p26_68, p26_73, p26_76, p26_77, p26_78, p26_81, p26_82, p26_85, p26_86, p26_89, p26_90, p26_94, p26_95, p26_96, p26_97, p26_102, p26_107, p26_110, p26_111, p26_112, p26_115, p26_116, p26_119, p26_120, p26_123, p26_124, p26_127, p26_128, jwd_c, jwd_0, Nat.reduceLeDiff, Nat.reduceEqDiff, Nat.reduceAdd, Nat.reduceSub, Nat.reduceMul, Int.reduceAdd, Int.reduceSub, Int.reduceMul, Int.reduceNeg, Int.reduceEq, Int.reduceLT, Int.reduceLE, jq_ldi_i, jq_ldl_l, jq_lda_a, jq_inc_i, jq_gs_t, jq_gsb_t, jq_gb_t, jq_gr_2, jq_gr_4, jq_gw_2, jq_s_t, jq_b_t, jg_c, jg_n, js_c, js_n, jrm_c, jrm_n, j2_i, j2_l, j2_a, jq_c_i, jq_c_l, jq_c_0, jq_c_n, jwd_le, jw_c0, mS_I, mS_R, mS_J, mN_I, mN_R, mN_J, mR_I, mI_R, mJ_I, mJ_R, mI_J, mR_J, ↓reduceIte, decide_true, or_true, true_or, and_self, false_or, or_false, reduceCtorEq, Bool.false_eq_true, and_false, false_and, eq_self, true_and, and_true, zero_ne, ↓br_lt_t, ↓br_lt_f, ↓br_eq_t, ↓br_eq_f, ↓br_lz_t, ↓br_lz_f, ↓br_ez_t, ↓br_ez_f, ↓br_gz_t, ↓br_gz_f, jw_id, jin_t, jix_t, ↓ite_t, ↓ite_f, ha, hk, hi2]
        rw [p26_105]
        simp (disch := omega) only [p26_0, p26_1, p26_2, p26_3, p26_4, p26_5, p26_7, p26_8, p26_12, p26_13, p26_16, p26_19, p26_20, p26_22, p26_25, p26_27, p26_29, p26_31, p26_34, p26_36, p26_39, p26_40, p26_43, p26_44, p26_47, p26_48, p26_49, p26_50, p26_53, p26_55, p26_58, p26_59, p26_63, p26_65, p26_68, p26_73, p26_76, p26_77, p26_78, p26_81, p26_82, p26_85, p26_86, p26_89, p26_90, p26_94, p26_95, p26_96, p26_97, p26_102, p26_107, p26_110, p26_111, p26_112, p26_115, p26_116, p26_119, p26_120, p26_123, p26_124, p26_127, p26_128, jwd_c, jwd_0, Nat.reduceLeDiff, Nat.reduceEqDiff, Nat.reduceAdd, Nat.reduceSub, Nat.reduceMul, Int.reduceAdd, Int.reduceSub, Int.reduceMul, Int.reduceNeg, Int.reduceEq, Int.reduceLT, Int.reduceLE, jq_ldi_i, jq_ldl_l, jq_lda_a, jq_inc_i, jq_gs_t, jq_gsb_t, jq_gb_t, jq_gr_2, jq_gr_4, jq_gw_2, jq_s_t, jq_b_t, jg_c, jg_n, js_c, js_n, jrm_c, jrm_n, j2_i, j2_l, j2_a, jq_c_i, jq_c_l, jq_c_0, jq_c_n, jwd_le, jw_c0, mS_I, mS_R, mS_J, mN_I, mN_R, mN_J, mR_I, mI_R, mJ_I, mJ_R, mI_J, mR_J, ↓reduceIte, decide_true, or_true, true_or, and_self, false_or, or_false, reduceCtorEq, Bool.false_eq_true, and_false, false_and, eq_self, true_and, and_true, zero_ne, ↓br_lt_t, ↓br_lt_f, ↓br_eq_t, ↓br_eq_f, ↓br_lz_t, ↓br_lz_f, ↓br_ez_t, ↓br_ez_f, ↓br_gz_t, ↓br_gz_f, jw_id, jin_t, jix_t, ↓ite_t, ↓ite_f, a1, h5, h6]
      · have g0 := e0.trans (if_neg (fun y => z y.2))
        rw [g0, p26_10]
        simp (disch := omega) only [p26_0, p26_1, p26_2, p26_3, p26_4, p26_5, p26_7, p26_8, p26_12, p26_13, p26_16, p26_19, p26_20, p26_22, p26_25, p26_27, p26_29, p26_31, p26_34, p26_36, p26_39, p26_40, p26_43, p26_44, p26_47, p26_48, p26_49, p26_50, p26_53, p26_55, p26_58, p26_59, p26_63, p26_65, p26_68, p26_73, p26_76, p26_77, p26_78, p26_81, p26_82, p26_85, p26_86, p26_89, p26_90, p26_94, p26_95, p26_96, p26_97, p26_102, p26_107, p26_110, p26_111, p26_112, p26_115, p26_116, p26_119, p26_120, p26_123, p26_124, p26_127, p26_128, jwd_c, jwd_0, Nat.reduceLeDiff, Nat.reduceEqDiff, Nat.reduceAdd, Nat.reduceSub, Nat.reduceMul, Int.reduceAdd, Int.reduceSub, Int.reduceMul, Int.reduceNeg, Int.reduceEq, Int.reduceLT, Int.reduceLE, jq_ldi_i, jq_ldl_l, jq_lda_a, jq_inc_i, jq_gs_t, jq_gsb_t, jq_gb_t, jq_gr_2, jq_gr_4, jq_gw_2, jq_s_t, jq_b_t, jg_c, jg_n, js_c, js_n, jrm_c, jrm_n, j2_i, j2_l, j2_a, jq_c_i, jq_c_l, jq_c_0, jq_c_n, jwd_le, jw_c0, mS_I, mS_R, mS_J, mN_I, mN_R, mN_J, mR_I, mI_R, mJ_I, mJ_R, mI_J, mR_J, ↓reduceIte, decide_true, or_true, true_or, and_self, false_or, or_false, reduceCtorEq, Bool.false_eq_true, and_false, false_and, eq_self, true_and, and_true, zero_ne, ↓br_lt_t, ↓br_lt_f, ↓br_eq_t, ↓br_eq_f, ↓br_lz_t, ↓br_lz_f, ↓br_ez_t, ↓br_ez_f, ↓br_gz_t, ↓br_gz_f, jw_id, jin_t, jix_t, ↓ite_t, ↓ite_f, ha, hk, hi2]
        rw [p26_105]
        simp (disch := omega) only [p26_0, p26_1, p26_2, p26_3, p26_4, p26_5, p26_7, p26_8, p26_12, p26_13, p26_16, p26_19, p26_20, p26_22, p26_25, p26_27, p26_29, p26_31, p26_34, p26_36, p26_39, p26_40, p26_43, p26_44, p26_47, p26_48, p26_49, p26_50, p26_53, p26_55, p26_58, p26_59, p26_63, p26_65, p26_68, p26_73, p26_76, p26_77, p26_78, p26_81, p26_82, p26_85, p26_86, p26_89, p26_90, p26_94, p26_95, p26_96, p26_97, p26_102, p26_107, p26_110, p26_111, p26_112, p26_115, p26_116, p26_119, p26_120, p26_123, p26_124, p26_127, p26_128, jwd_c, jwd_0, Nat.reduceLeDiff, Nat.reduceEqDiff, Nat.reduceAdd, Nat.reduceSub, Nat.reduceMul, Int.reduceAdd, Int.reduceSub, Int.reduceMul, Int.reduceNeg, Int.reduceEq, Int.reduceLT, Int.reduceLE, jq_ldi_i, jq_ldl_l, jq_lda_a, jq_inc_i, jq_gs_t, jq_gsb_t, jq_gb_t, jq_gr_2, jq_gr_4, jq_gw_2, jq_s_t, jq_b_t, jg_c, jg_n, js_c, js_n, jrm_c, jrm_n, j2_i, j2_l, j2_a, jq_c_i, jq_c_l, jq_c_0, jq_c_n, jwd_le, jw_c0, mS_I, mS_R, mS_J, mN_I, mN_R, mN_J, mR_I, mI_R, mJ_I, mJ_R, mI_J, mR_J, ↓reduceIte, decide_true, or_true, true_or, and_self, false_or, or_false, reduceCtorEq, Bool.false_eq_true, and_false, false_and, eq_self, true_and, and_true, zero_ne, ↓br_lt_t, ↓br_lt_f, ↓br_eq_t, ↓br_eq_f, ↓br_lz_t, ↓br_lz_f, ↓br_ez_t, ↓br_ez_f, ↓br_gz_t, ↓br_gz_f, jw_id, jin_t, jix_t, ↓ite_t, ↓ite_f, a1, h5, h6]
  | cons c t ih =>
    intro i ln wh sm tl hd hL hi h0 hw ht hil
    obtain ⟨d1, d2, d3⟩ := drop_at hd
    have hc128 := hL c List.mem_cons_self
    have jr := t1p_jr ht
    have j3 := t1p_js ht
    have e0 : gOf (fun k => if s + k < cnt then T (s + k) else 0) (e - s) (c :: t) wh ln sm = if c = 32 then (if sm = true ∧ ln = e - s then wh else gOf (fun k => if s + k < cnt then T (s + k) else 0) (e - s) t (wh + 1) 0 true) else gOf (fun k => if s + k < cnt then T (s + k) else 0) (e - s) t wh (ln + 1) (sm && decide ((if s + ln < cnt then T (s + ln) else 0) = (c : Int))) := rfl
    have hd0 : rn 26 (10, (0, jvr 101) :: (1, jvr a) :: (2, .inl wh) :: (3, .inl (ln : Int)) :: (4, .inl (if sm = true then 1 else 0)) :: (5, .inl (i : Int)) :: tl, [], w) = rn 26 (27, [(0, jvr 101), (1, jvr a), (2, .inl wh), (3, .inl (ln : Int)), (4, .inl (if sm = true then 1 else 0)), (5, .inl (i : Int)), (6, .inl (c : Int))], [], w) := by
      rw [p26_10]
      have d2' : (jst k).getD ((i : Int)).toNat 0 = c := by
        rw [Int.toNat_natCast]
        exact d2
      simp (disch := omega) only [p26_0, p26_1, p26_2, p26_3, p26_4, p26_5, p26_7, p26_8, p26_12, p26_13, p26_16, p26_19, p26_20, p26_22, p26_25, p26_29, p26_31, p26_34, p26_36, p26_39, p26_40, p26_43, p26_44, p26_47, p26_48, p26_49, p26_50, p26_53, p26_55, p26_58, p26_59, p26_63, p26_65, p26_68, p26_73, p26_76, p26_77, p26_78, p26_81, p26_82, p26_85, p26_86, p26_89, p26_90, p26_94, p26_95, p26_96, p26_97, p26_102, p26_107, p26_110, p26_111, p26_112, p26_115, p26_116, p26_119, p26_120, p26_123, p26_124, p26_127, p26_128, jwd_c, jwd_0, Nat.reduceLeDiff, Nat.reduceEqDiff, Nat.reduceAdd, Nat.reduceSub, Nat.reduceMul, Int.reduceAdd, Int.reduceSub, Int.reduceMul, Int.reduceNeg, Int.reduceEq, Int.reduceLT, Int.reduceLE, jq_ldi_i, jq_ldl_l, jq_lda_a, jq_inc_i, jq_gs_t, jq_gsb_t, jq_gb_t, jq_gr_2, jq_gr_4, jq_gw_2, jq_s_t, jq_b_t, jg_c, jg_n, js_c, js_n, jrm_c, jrm_n, j2_i, j2_l, j2_a, jq_c_i, jq_c_l, jq_c_0, jq_c_n, jwd_le, jw_c0, mS_I, mS_R, mS_J, mN_I, mN_R, mN_J, mR_I, mI_R, mJ_I, mJ_R, mI_J, mR_J, ↓reduceIte, decide_true, or_true, true_or, and_self, false_or, or_false, reduceCtorEq, Bool.false_eq_true, and_false, false_and, eq_self, true_and, and_true, zero_ne, ↓br_lt_t, ↓br_lt_f, ↓br_eq_t, ↓br_eq_f, ↓br_lz_t, ↓br_lz_f, ↓br_ez_t, ↓br_ez_f, ↓br_gz_t, ↓br_gz_f, jw_id, jin_t, jix_t, ↓ite_t, ↓ite_f, ha, hk, d2', j3]
    have tg : rn 23 (0, [(0, jvr 65), (1, .inl ((s : Int) + (ln : Int))), (2, .inl 0)], [], w) = some (some (.inl (if s + ln < cnt then T (s + ln) else 0)), w) := by
      by_cases z : s + ln < cnt
      · rw [if_pos z]
        have := tp_get h z
        rw [show ((s + ln : Nat) : Int) = (s : Int) + (ln : Int) by omega] at this
        exact this
      · rw [if_neg z]
        exact sg_out a6 (by omega) (by omega) (by omega) (by omega) (Or.inr (by omega))
    have tb : 0 ≤ (if s + ln < cnt then T (s + ln) else 0) ∧ (if s + ln < cnt then T (s + ln) else 0) ≤ 255 := by
      by_cases z : s + ln < cnt
      · rw [if_pos z]
        exact a8 _ z
      · rw [if_neg z]
        omega
    rw [hd0]
    generalize hX : (if s + ln < cnt then T (s + ln) else 0) = X at *
    by_cases z : c = 32
    · have e1 := e0.trans (if_pos z)
      cases sm with
      | false =>
        have i1 := ih (i + 1) 0 (wh + 1) true [(6, .inl (c : Int))] d3 (fun c hc => hL c (List.mem_cons_of_mem _ hc)) (by omega) (by omega) (by omega) (Or.inr ⟨_, rfl⟩) (by omega)
        have g0 := e1.trans (if_neg (fun y => absurd y.1 (by decide)))
        rw [g0, ← i1, p26_27]
        simp (disch := omega) only [p26_0, p26_1, p26_2, p26_3, p26_4, p26_5, p26_7, p26_8, p26_12, p26_13, p26_16, p26_19, p26_20, p26_22, p26_25, p26_27, p26_29, p26_31, p26_34, p26_36, p26_39, p26_40, p26_43, p26_44, p26_47, p26_48, p26_49, p26_50, p26_53, p26_55, p26_58, p26_59, p26_63, p26_65, p26_68, p26_73, p26_76, p26_77, p26_78, p26_81, p26_82, p26_85, p26_86, p26_89, p26_90, p26_94, p26_95, p26_96, p26_97, p26_102, p26_107, p26_110, p26_111, p26_112, p26_115, p26_116, p26_119, p26_120, p26_123, p26_124, p26_127, p26_128, jwd_c, jwd_0, Nat.reduceLeDiff, Nat.reduceEqDiff, Nat.reduceAdd, Nat.reduceSub, Nat.reduceMul, Int.reduceAdd, Int.reduceSub, Int.reduceMul, Int.reduceNeg, Int.reduceEq, Int.reduceLT, Int.reduceLE, jq_ldi_i, jq_ldl_l, jq_lda_a, jq_inc_i, jq_gs_t, jq_gsb_t, jq_gb_t, jq_gr_2, jq_gr_4, jq_gw_2, jq_s_t, jq_b_t, jg_c, jg_n, js_c, js_n, jrm_c, jrm_n, j2_i, j2_l, j2_a, jq_c_i, jq_c_l, jq_c_0, jq_c_n, jwd_le, jw_c0, mS_I, mS_R, mS_J, mN_I, mN_R, mN_J, mR_I, mI_R, mJ_I, mJ_R, mI_J, mR_J, ↓reduceIte, decide_true, or_true, true_or, and_self, false_or, or_false, reduceCtorEq, Bool.false_eq_true, and_false, false_and, eq_self, true_and, and_true, zero_ne, ↓br_lt_t, ↓br_lt_f, ↓br_eq_t, ↓br_eq_f, ↓br_lz_t, ↓br_lz_f, ↓br_ez_t, ↓br_ez_f, ↓br_gz_t, ↓br_gz_f, jw_id, jin_t, jix_t, ↓ite_t, ↓ite_f, Bool.false_eq_true]
        rw [p26_71]
        simp (disch := omega) only [p26_0, p26_1, p26_2, p26_3, p26_4, p26_5, p26_7, p26_8, p26_12, p26_13, p26_16, p26_19, p26_20, p26_22, p26_25, p26_27, p26_29, p26_31, p26_34, p26_36, p26_39, p26_40, p26_43, p26_44, p26_47, p26_48, p26_49, p26_50, p26_53, p26_55, p26_58, p26_59, p26_63, p26_65, p26_68, p26_73, p26_76, p26_77, p26_78, p26_81, p26_82, p26_85, p26_86, p26_89, p26_90, p26_94, p26_95, p26_96, p26_97, p26_102, p26_107, p26_110, p26_111, p26_112, p26_115, p26_116, p26_119, p26_120, p26_123, p26_124, p26_127, p26_128, jwd_c, jwd_0, Nat.reduceLeDiff, Nat.reduceEqDiff, Nat.reduceAdd, Nat.reduceSub, Nat.reduceMul, Int.reduceAdd, Int.reduceSub, Int.reduceMul, Int.reduceNeg, Int.reduceEq, Int.reduceLT, Int.reduceLE, jq_ldi_i, jq_ldl_l, jq_lda_a, jq_inc_i, jq_gs_t, jq_gsb_t, jq_gb_t, jq_gr_2, jq_gr_4, jq_gw_2, jq_s_t, jq_b_t, jg_c, jg_n, js_c, js_n, jrm_c, jrm_n, j2_i, j2_l, j2_a, jq_c_i, jq_c_l, jq_c_0, jq_c_n, jwd_le, jw_c0, mS_I, mS_R, mS_J, mN_I, mN_R, mN_J, mR_I, mI_R, mJ_I, mJ_R, mI_J, mR_J, ↓reduceIte, decide_true, or_true, true_or, and_self, false_or, or_false, reduceCtorEq, Bool.false_eq_true, and_false, false_and, eq_self, true_and, and_true, zero_ne, ↓br_lt_t, ↓br_lt_f, ↓br_eq_t, ↓br_eq_f, ↓br_lz_t, ↓br_lz_f, ↓br_ez_t, ↓br_ez_f, ↓br_gz_t, ↓br_gz_f, jw_id, jin_t, jix_t, ↓ite_t, ↓ite_f, Bool.false_eq_true]
        rw [p26_91]
        simp (disch := omega) only [p26_0, p26_1, p26_2, p26_3, p26_4, p26_5, p26_7, p26_8, p26_12, p26_13, p26_16, p26_19, p26_20, p26_22, p26_25, p26_27, p26_29, p26_31, p26_34, p26_36, p26_39, p26_40, p26_43, p26_44, p26_47, p26_48, p26_49, p26_50, p26_53, p26_55, p26_58, p26_59, p26_63, p26_65, p26_68, p26_73, p26_76, p26_77, p26_78, p26_81, p26_82, p26_85, p26_86, p26_89, p26_90, p26_94, p26_95, p26_96, p26_97, p26_102, p26_107, p26_110, p26_111, p26_112, p26_115, p26_116, p26_119, p26_120, p26_123, p26_124, p26_127, p26_128, jwd_c, jwd_0, Nat.reduceLeDiff, Nat.reduceEqDiff, Nat.reduceAdd, Nat.reduceSub, Nat.reduceMul, Int.reduceAdd, Int.reduceSub, Int.reduceMul, Int.reduceNeg, Int.reduceEq, Int.reduceLT, Int.reduceLE, jq_ldi_i, jq_ldl_l, jq_lda_a, jq_inc_i, jq_gs_t, jq_gsb_t, jq_gb_t, jq_gr_2, jq_gr_4, jq_gw_2, jq_s_t, jq_b_t, jg_c, jg_n, js_c, js_n, jrm_c, jrm_n, j2_i, j2_l, j2_a, jq_c_i, jq_c_l, jq_c_0, jq_c_n, jwd_le, jw_c0, mS_I, mS_R, mS_J, mN_I, mN_R, mN_J, mR_I, mI_R, mJ_I, mJ_R, mI_J, mR_J, ↓reduceIte, decide_true, or_true, true_or, and_self, false_or, or_false, reduceCtorEq, Bool.false_eq_true, and_false, false_and, eq_self, true_and, and_true, zero_ne, ↓br_lt_t, ↓br_lt_f, ↓br_eq_t, ↓br_eq_f, ↓br_lz_t, ↓br_lz_f, ↓br_ez_t, ↓br_ez_f, ↓br_gz_t, ↓br_gz_f, jw_id, jin_t, jix_t, ↓ite_t, ↓ite_f, Bool.false_eq_true]
        rw [p26_99]
        simp (disch := omega) only [p26_0, p26_1, p26_2, p26_3, p26_4, p26_5, p26_7, p26_8, p26_12, p26_13, p26_16, p26_19, p26_20, p26_22, p26_25, p26_27, p26_29, p26_31, p26_34, p26_36, p26_39, p26_40, p26_43, p26_44, p26_47, p26_48, p26_49, p26_50, p26_53, p26_55, p26_58, p26_59, p26_63, p26_65, p26_68, p26_73, p26_76, p26_77, p26_78, p26_81, p26_82, p26_85, p26_86, p26_89, p26_90, p26_94, p26_95, p26_96, p26_97, p26_102, p26_107, p26_110, p26_111, p26_112, p26_115, p26_116, p26_119, p26_120, p26_123, p26_124, p26_127, p26_128, jwd_c, jwd_0, Nat.reduceLeDiff, Nat.reduceEqDiff, Nat.reduceAdd, Nat.reduceSub, Nat.reduceMul, Int.reduceAdd, Int.reduceSub, Int.reduceMul, Int.reduceNeg, Int.reduceEq, Int.reduceLT, Int.reduceLE, jq_ldi_i, jq_ldl_l, jq_lda_a, jq_inc_i, jq_gs_t, jq_gsb_t, jq_gb_t, jq_gr_2, jq_gr_4, jq_gw_2, jq_s_t, jq_b_t, jg_c, jg_n, js_c, js_n, jrm_c, jrm_n, j2_i, j2_l, j2_a, jq_c_i, jq_c_l, jq_c_0, jq_c_n, jwd_le, jw_c0, mS_I, mS_R, mS_J, mN_I, mN_R, mN_J, mR_I, mI_R, mJ_I, mJ_R, mI_J, mR_J, ↓reduceIte, decide_true, or_true, true_or, and_self, false_or, or_false, reduceCtorEq, Bool.false_eq_true, and_false, false_and, eq_self, true_and, and_true, zero_ne, ↓br_lt_t, ↓br_lt_f, ↓br_eq_t, ↓br_eq_f, ↓br_lz_t, ↓br_lz_f, ↓br_ez_t, ↓br_ez_f, ↓br_gz_t, ↓br_gz_f, jw_id, jin_t, jix_t, ↓ite_t, ↓ite_f, Bool.false_eq_true]
        rfl
      | true =>
        by_cases y : ln = e - s
        · have g0 := e1.trans (if_pos ⟨rfl, y⟩)
          rw [g0, p26_27]
          simp (disch := omega) only [p26_0, p26_1, p26_2, p26_3, p26_4, p26_5, p26_7, p26_8, p26_12, p26_13, p26_16, p26_19, p26_20, p26_22, p26_25, p26_27, p26_29, p26_31, p26_34, p26_36, p26_39, p26_40, p26_43, p26_44, p26_47, p26_48, p26_49, p26_50, p26_53, p26_55, p26_58, p26_59, p26_63, p26_65, p26_68, p26_73, p26_76, p26_77, p26_78, p26_81, p26_82, p26_85, p26_86, p26_89, p26_90, p26_94, p26_95, p26_96, p26_97, p26_102, p26_107, p26_110, p26_111, p26_112, p26_115, p26_116, p26_119, p26_120, p26_123, p26_124, p26_127, p26_128, jwd_c, jwd_0, Nat.reduceLeDiff, Nat.reduceEqDiff, Nat.reduceAdd, Nat.reduceSub, Nat.reduceMul, Int.reduceAdd, Int.reduceSub, Int.reduceMul, Int.reduceNeg, Int.reduceEq, Int.reduceLT, Int.reduceLE, jq_ldi_i, jq_ldl_l, jq_lda_a, jq_inc_i, jq_gs_t, jq_gsb_t, jq_gb_t, jq_gr_2, jq_gr_4, jq_gw_2, jq_s_t, jq_b_t, jg_c, jg_n, js_c, js_n, jrm_c, jrm_n, j2_i, j2_l, j2_a, jq_c_i, jq_c_l, jq_c_0, jq_c_n, jwd_le, jw_c0, mS_I, mS_R, mS_J, mN_I, mN_R, mN_J, mR_I, mI_R, mJ_I, mJ_R, mI_J, mR_J, ↓reduceIte, decide_true, or_true, true_or, and_self, false_or, or_false, reduceCtorEq, Bool.false_eq_true, and_false, false_and, eq_self, true_and, and_true, zero_ne, ↓br_lt_t, ↓br_lt_f, ↓br_eq_t, ↓br_eq_f, ↓br_lz_t, ↓br_lz_f, ↓br_ez_t, ↓br_ez_f, ↓br_gz_t, ↓br_gz_f, jw_id, jin_t, jix_t, ↓ite_t, ↓ite_f]
          rw [p26_71]
          simp (disch := omega) only [p26_0, p26_1, p26_2, p26_3, p26_4, p26_5, p26_7, p26_8, p26_12, p26_13, p26_16, p26_19, p26_20, p26_22, p26_25, p26_27, p26_29, p26_31, p26_34, p26_36, p26_39, p26_40, p26_43, p26_44, p26_47, p26_48, p26_49, p26_50, p26_53, p26_55, p26_58, p26_59, p26_63, p26_65, p26_68, p26_73, p26_76, p26_77, p26_78, p26_81, p26_82, p26_85, p26_86, p26_89, p26_90, p26_94, p26_95, p26_96, p26_97, p26_102, p26_107, p26_110, p26_111, p26_112, p26_115, p26_116, p26_119, p26_120, p26_123, p26_124, p26_127, p26_128, jwd_c, jwd_0, Nat.reduceLeDiff, Nat.reduceEqDiff, Nat.reduceAdd, Nat.reduceSub, Nat.reduceMul, Int.reduceAdd, Int.reduceSub, Int.reduceMul, Int.reduceNeg, Int.reduceEq, Int.reduceLT, Int.reduceLE, jq_ldi_i, jq_ldl_l, jq_lda_a, jq_inc_i, jq_gs_t, jq_gsb_t, jq_gb_t, jq_gr_2, jq_gr_4, jq_gw_2, jq_s_t, jq_b_t, jg_c, jg_n, js_c, js_n, jrm_c, jrm_n, j2_i, j2_l, j2_a, jq_c_i, jq_c_l, jq_c_0, jq_c_n, jwd_le, jw_c0, mS_I, mS_R, mS_J, mN_I, mN_R, mN_J, mR_I, mI_R, mJ_I, mJ_R, mI_J, mR_J, ↓reduceIte, decide_true, or_true, true_or, and_self, false_or, or_false, reduceCtorEq, Bool.false_eq_true, and_false, false_and, eq_self, true_and, and_true, zero_ne, ↓br_lt_t, ↓br_lt_f, ↓br_eq_t, ↓br_eq_f, ↓br_lz_t, ↓br_lz_f, ↓br_ez_t, ↓br_ez_f, ↓br_gz_t, ↓br_gz_f, jw_id, jin_t, jix_t, ↓ite_t, ↓ite_f, a1, h5, h6]
        · have i1 := ih (i + 1) 0 (wh + 1) true [(6, .inl (c : Int))] d3 (fun c hc => hL c (List.mem_cons_of_mem _ hc)) (by omega) (by omega) (by omega) (Or.inr ⟨_, rfl⟩) (by omega)
          have g0 := e1.trans (if_neg (fun x => y x.2))
          rw [g0, ← i1, p26_27]
          simp (disch := omega) only [p26_0, p26_1, p26_2, p26_3, p26_4, p26_5, p26_7, p26_8, p26_12, p26_13, p26_16, p26_19, p26_20, p26_22, p26_25, p26_27, p26_29, p26_31, p26_34, p26_36, p26_39, p26_40, p26_43, p26_44, p26_47, p26_48, p26_49, p26_50, p26_53, p26_55, p26_58, p26_59, p26_63, p26_65, p26_68, p26_73, p26_76, p26_77, p26_78, p26_81, p26_82, p26_85, p26_86, p26_89, p26_90, p26_94, p26_95, p26_96, p26_97, p26_102, p26_107, p26_110, p26_111, p26_112, p26_115, p26_116, p26_119, p26_120, p26_123, p26_124, p26_127, p26_128, jwd_c, jwd_0, Nat.reduceLeDiff, Nat.reduceEqDiff, Nat.reduceAdd, Nat.reduceSub, Nat.reduceMul, Int.reduceAdd, Int.reduceSub, Int.reduceMul, Int.reduceNeg, Int.reduceEq, Int.reduceLT, Int.reduceLE, jq_ldi_i, jq_ldl_l, jq_lda_a, jq_inc_i, jq_gs_t, jq_gsb_t, jq_gb_t, jq_gr_2, jq_gr_4, jq_gw_2, jq_s_t, jq_b_t, jg_c, jg_n, js_c, js_n, jrm_c, jrm_n, j2_i, j2_l, j2_a, jq_c_i, jq_c_l, jq_c_0, jq_c_n, jwd_le, jw_c0, mS_I, mS_R, mS_J, mN_I, mN_R, mN_J, mR_I, mI_R, mJ_I, mJ_R, mI_J, mR_J, ↓reduceIte, decide_true, or_true, true_or, and_self, false_or, or_false, reduceCtorEq, Bool.false_eq_true, and_false, false_and, eq_self, true_and, and_true, zero_ne, ↓br_lt_t, ↓br_lt_f, ↓br_eq_t, ↓br_eq_f, ↓br_lz_t, ↓br_lz_f, ↓br_ez_t, ↓br_ez_f, ↓br_gz_t, ↓br_gz_f, jw_id, jin_t, jix_t, ↓ite_t, ↓ite_f]
          rw [p26_71]
          simp (disch := omega) only [p26_0, p26_1, p26_2, p26_3, p26_4, p26_5, p26_7, p26_8, p26_12, p26_13, p26_16, p26_19, p26_20, p26_22, p26_25, p26_27, p26_29, p26_31, p26_34, p26_36, p26_39, p26_40, p26_43, p26_44, p26_47, p26_48, p26_49, p26_50, p26_53, p26_55, p26_58, p26_59, p26_63, p26_65, p26_68, p26_73, p26_76, p26_77, p26_78, p26_81, p26_82, p26_85, p26_86, p26_89, p26_90, p26_94, p26_95, p26_96, p26_97, p26_102, p26_107, p26_110, p26_111, p26_112, p26_115, p26_116, p26_119, p26_120, p26_123, p26_124, p26_127, p26_128, jwd_c, jwd_0, Nat.reduceLeDiff, Nat.reduceEqDiff, Nat.reduceAdd, Nat.reduceSub, Nat.reduceMul, Int.reduceAdd, Int.reduceSub, Int.reduceMul, Int.reduceNeg, Int.reduceEq, Int.reduceLT, Int.reduceLE, jq_ldi_i, jq_ldl_l, jq_lda_a, jq_inc_i, jq_gs_t, jq_gsb_t, jq_gb_t, jq_gr_2, jq_gr_4, jq_gw_2, jq_s_t, jq_b_t, jg_c, jg_n, js_c, js_n, jrm_c, jrm_n, j2_i, j2_l, j2_a, jq_c_i, jq_c_l, jq_c_0, jq_c_n, jwd_le, jw_c0, mS_I, mS_R, mS_J, mN_I, mN_R, mN_J, mR_I, mI_R, mJ_I, mJ_R, mI_J, mR_J, ↓reduceIte, decide_true, or_true, true_or, and_self, false_or, or_false, reduceCtorEq, Bool.false_eq_true, and_false, false_and, eq_self, true_and, and_true, zero_ne, ↓br_lt_t, ↓br_lt_f, ↓br_eq_t, ↓br_eq_f, ↓br_lz_t, ↓br_lz_f, ↓br_ez_t, ↓br_ez_f, ↓br_gz_t, ↓br_gz_f, jw_id, jin_t, jix_t, ↓ite_t, ↓ite_f, a1, h5, h6]
          rw [p26_91]
          simp (disch := omega) only [p26_0, p26_1, p26_2, p26_3, p26_4, p26_5, p26_7, p26_8, p26_12, p26_13, p26_16, p26_19, p26_20, p26_22, p26_25, p26_27, p26_29, p26_31, p26_34, p26_36, p26_39, p26_40, p26_43, p26_44, p26_47, p26_48, p26_49, p26_50, p26_53, p26_55, p26_58, p26_59, p26_63, p26_65, p26_68, p26_73, p26_76, p26_77, p26_78, p26_81, p26_82, p26_85, p26_86, p26_89, p26_90, p26_94, p26_95, p26_96, p26_97, p26_102, p26_107, p26_110, p26_111, p26_112, p26_115, p26_116, p26_119, p26_120, p26_123, p26_124, p26_127, p26_128, jwd_c, jwd_0, Nat.reduceLeDiff, Nat.reduceEqDiff, Nat.reduceAdd, Nat.reduceSub, Nat.reduceMul, Int.reduceAdd, Int.reduceSub, Int.reduceMul, Int.reduceNeg, Int.reduceEq, Int.reduceLT, Int.reduceLE, jq_ldi_i, jq_ldl_l, jq_lda_a, jq_inc_i, jq_gs_t, jq_gsb_t, jq_gb_t, jq_gr_2, jq_gr_4, jq_gw_2, jq_s_t, jq_b_t, jg_c, jg_n, js_c, js_n, jrm_c, jrm_n, j2_i, j2_l, j2_a, jq_c_i, jq_c_l, jq_c_0, jq_c_n, jwd_le, jw_c0, mS_I, mS_R, mS_J, mN_I, mN_R, mN_J, mR_I, mI_R, mJ_I, mJ_R, mI_J, mR_J, ↓reduceIte, decide_true, or_true, true_or, and_self, false_or, or_false, reduceCtorEq, Bool.false_eq_true, and_false, false_and, eq_self, true_and, and_true, zero_ne, ↓br_lt_t, ↓br_lt_f, ↓br_eq_t, ↓br_eq_f, ↓br_lz_t, ↓br_lz_f, ↓br_ez_t, ↓br_ez_f, ↓br_gz_t, ↓br_gz_f, jw_id, jin_t, jix_t, ↓ite_t, ↓ite_f]
          rw [p26_99]
          simp (disch := omega) only [p26_0, p26_1, p26_2, p26_3, p26_4, p26_5, p26_7, p26_8, p26_12, p26_13, p26_16, p26_19, p26_20, p26_22, p26_25, p26_27, p26_29, p26_31, p26_34, p26_36, p26_39, p26_40, p26_43, p26_44, p26_47, p26_48, p26_49, p26_50, p26_53, p26_55, p26_58, p26_59, p26_63, p26_65, p26_68, p26_73, p26_76, p26_77, p26_78, p26_81, p26_82, p26_85, p26_86, p26_89, p26_90, p26_94, p26_95, p26_96, p26_97, p26_102, p26_107, p26_110, p26_111, p26_112, p26_115, p26_116, p26_119, p26_120, p26_123, p26_124, p26_127, p26_128, jwd_c, jwd_0, Nat.reduceLeDiff, Nat.reduceEqDiff, Nat.reduceAdd, Nat.reduceSub, Nat.reduceMul, Int.reduceAdd, Int.reduceSub, Int.reduceMul, Int.reduceNeg, Int.reduceEq, Int.reduceLT, Int.reduceLE, jq_ldi_i, jq_ldl_l, jq_lda_a, jq_inc_i, jq_gs_t, jq_gsb_t, jq_gb_t, jq_gr_2, jq_gr_4, jq_gw_2, jq_s_t, jq_b_t, jg_c, jg_n, js_c, js_n, jrm_c, jrm_n, j2_i, j2_l, j2_a, jq_c_i, jq_c_l, jq_c_0, jq_c_n, jwd_le, jw_c0, mS_I, mS_R, mS_J, mN_I, mN_R, mN_J, mR_I, mI_R, mJ_I, mJ_R, mI_J, mR_J, ↓reduceIte, decide_true, or_true, true_or, and_self, false_or, or_false, reduceCtorEq, Bool.false_eq_true, and_false, false_and, eq_self, true_and, and_true, zero_ne, ↓br_lt_t, ↓br_lt_f, ↓br_eq_t, ↓br_eq_f, ↓br_lz_t, ↓br_lz_f, ↓br_ez_t, ↓br_ez_f, ↓br_gz_t, ↓br_gz_f, jw_id, jin_t, jix_t, ↓ite_t, ↓ite_f]
          rfl
    · have e1 := e0.trans (if_neg z)
      have fin : ∀ b : Bool, rn 26 (63, [(0, jvr 101), (1, jvr a), (2, .inl wh), (3, .inl (ln : Int)), (4, .inl (if sm = true then 1 else 0)), (5, .inl (i : Int)), (6, .inl (c : Int))], [.inl (if b = true then 1 else 0)], w) = some (some (.inl (gOf (fun k => if s + k < cnt then T (s + k) else 0) (e - s) t wh (ln + 1) b)), w) := by
        intro b
        have i1 := ih (i + 1) (ln + 1) wh b [(6, .inl (c : Int))] d3 (fun c hc => hL c (List.mem_cons_of_mem _ hc)) (by omega) (by omega) (by omega) (Or.inr ⟨_, rfl⟩) (by omega)
        rw [← i1, p26_63]
        simp (disch := omega) only [p26_0, p26_1, p26_2, p26_3, p26_4, p26_5, p26_7, p26_8, p26_12, p26_13, p26_16, p26_19, p26_20, p26_22, p26_25, p26_27, p26_29, p26_31, p26_34, p26_36, p26_39, p26_40, p26_43, p26_44, p26_47, p26_48, p26_49, p26_50, p26_53, p26_55, p26_58, p26_59, p26_65, p26_68, p26_73, p26_76, p26_77, p26_78, p26_81, p26_82, p26_85, p26_86, p26_89, p26_90, p26_94, p26_95, p26_96, p26_97, p26_102, p26_107, p26_110, p26_111, p26_112, p26_115, p26_116, p26_119, p26_120, p26_123, p26_124, p26_127, p26_128, jwd_c, jwd_0, Nat.reduceLeDiff, Nat.reduceEqDiff, Nat.reduceAdd, Nat.reduceSub, Nat.reduceMul, Int.reduceAdd, Int.reduceSub, Int.reduceMul, Int.reduceNeg, Int.reduceEq, Int.reduceLT, Int.reduceLE, jq_ldi_i, jq_ldl_l, jq_lda_a, jq_inc_i, jq_gs_t, jq_gsb_t, jq_gb_t, jq_gr_2, jq_gr_4, jq_gw_2, jq_s_t, jq_b_t, jg_c, jg_n, js_c, js_n, jrm_c, jrm_n, j2_i, j2_l, j2_a, jq_c_i, jq_c_l, jq_c_0, jq_c_n, jwd_le, jw_c0, mS_I, mS_R, mS_J, mN_I, mN_R, mN_J, mR_I, mI_R, mJ_I, mJ_R, mI_J, mR_J, ↓reduceIte, decide_true, or_true, true_or, and_self, false_or, or_false, reduceCtorEq, Bool.false_eq_true, and_false, false_and, eq_self, true_and, and_true, zero_ne, ↓br_lt_t, ↓br_lt_f, ↓br_eq_t, ↓br_eq_f, ↓br_lz_t, ↓br_lz_f, ↓br_ez_t, ↓br_ez_f, ↓br_gz_t, ↓br_gz_f, jw_id, jin_t, jix_t, ↓ite_t, ↓ite_f]
        rw [p26_99]
        simp (disch := omega) only [p26_0, p26_1, p26_2, p26_3, p26_4, p26_5, p26_7, p26_8, p26_12, p26_13, p26_16, p26_19, p26_20, p26_22, p26_25, p26_27, p26_29, p26_31, p26_34, p26_36, p26_39, p26_40, p26_43, p26_44, p26_47, p26_48, p26_49, p26_50, p26_53, p26_55, p26_58, p26_59, p26_65, p26_68, p26_73, p26_76, p26_77, p26_78, p26_81, p26_82, p26_85, p26_86, p26_89, p26_90, p26_94, p26_95, p26_96, p26_97, p26_102, p26_107, p26_110, p26_111, p26_112, p26_115, p26_116, p26_119, p26_120, p26_123, p26_124, p26_127, p26_128, jwd_c, jwd_0, Nat.reduceLeDiff, Nat.reduceEqDiff, Nat.reduceAdd, Nat.reduceSub, Nat.reduceMul, Int.reduceAdd, Int.reduceSub, Int.reduceMul, Int.reduceNeg, Int.reduceEq, Int.reduceLT, Int.reduceLE, jq_ldi_i, jq_ldl_l, jq_lda_a, jq_inc_i, jq_gs_t, jq_gsb_t, jq_gb_t, jq_gr_2, jq_gr_4, jq_gw_2, jq_s_t, jq_b_t, jg_c, jg_n, js_c, js_n, jrm_c, jrm_n, j2_i, j2_l, j2_a, jq_c_i, jq_c_l, jq_c_0, jq_c_n, jwd_le, jw_c0, mS_I, mS_R, mS_J, mN_I, mN_R, mN_J, mR_I, mI_R, mJ_I, mJ_R, mI_J, mR_J, ↓reduceIte, decide_true, or_true, true_or, and_self, false_or, or_false, reduceCtorEq, Bool.false_eq_true, and_false, false_and, eq_self, true_and, and_true, zero_ne, ↓br_lt_t, ↓br_lt_f, ↓br_eq_t, ↓br_eq_f, ↓br_lz_t, ↓br_lz_f, ↓br_ez_t, ↓br_ez_f, ↓br_gz_t, ↓br_gz_f, jw_id, jin_t, jix_t, ↓ite_t, ↓ite_f]
        rfl
      cases sm with
      | false =>
        have f1 := fin false
        rw [e1, Bool.false_and, ← f1, p26_27]
        simp (disch := omega) only [p26_0, p26_1, p26_2, p26_3, p26_4, p26_5, p26_7, p26_8, p26_12, p26_13, p26_16, p26_19, p26_20, p26_22, p26_25, p26_27, p26_29, p26_31, p26_34, p26_36, p26_39, p26_40, p26_43, p26_44, p26_47, p26_48, p26_49, p26_50, p26_53, p26_55, p26_58, p26_59, p26_65, p26_68, p26_73, p26_76, p26_77, p26_78, p26_81, p26_82, p26_85, p26_86, p26_89, p26_90, p26_94, p26_95, p26_96, p26_97, p26_102, p26_107, p26_110, p26_111, p26_112, p26_115, p26_116, p26_119, p26_120, p26_123, p26_124, p26_127, p26_128, jwd_c, jwd_0, Nat.reduceLeDiff, Nat.reduceEqDiff, Nat.reduceAdd, Nat.reduceSub, Nat.reduceMul, Int.reduceAdd, Int.reduceSub, Int.reduceMul, Int.reduceNeg, Int.reduceEq, Int.reduceLT, Int.reduceLE, jq_ldi_i, jq_ldl_l, jq_lda_a, jq_inc_i, jq_gs_t, jq_gsb_t, jq_gb_t, jq_gr_2, jq_gr_4, jq_gw_2, jq_s_t, jq_b_t, jg_c, jg_n, js_c, js_n, jrm_c, jrm_n, j2_i, j2_l, j2_a, jq_c_i, jq_c_l, jq_c_0, jq_c_n, jwd_le, jw_c0, mS_I, mS_R, mS_J, mN_I, mN_R, mN_J, mR_I, mI_R, mJ_I, mJ_R, mI_J, mR_J, ↓reduceIte, decide_true, or_true, true_or, and_self, false_or, or_false, reduceCtorEq, Bool.false_eq_true, and_false, false_and, eq_self, true_and, and_true, zero_ne, ↓br_lt_t, ↓br_lt_f, ↓br_eq_t, ↓br_eq_f, ↓br_lz_t, ↓br_lz_f, ↓br_ez_t, ↓br_ez_f, ↓br_gz_t, ↓br_gz_f, jw_id, jin_t, jix_t, ↓ite_t, ↓ite_f, Bool.false_eq_true]
        rw [p26_62]
      | true =>
        by_cases y : X = (c : Int)
        · have f1 := fin true
          rw [e1, decide_eq_true y, Bool.true_and, ← f1, p26_27]
          simp (disch := omega) only [p26_0, p26_1, p26_2, p26_3, p26_4, p26_5, p26_7, p26_8, p26_12, p26_13, p26_16, p26_19, p26_20, p26_22, p26_25, p26_27, p26_29, p26_31, p26_34, p26_36, p26_39, p26_40, p26_43, p26_44, p26_47, p26_48, p26_49, p26_50, p26_53, p26_55, p26_58, p26_59, p26_65, p26_68, p26_73, p26_76, p26_77, p26_78, p26_81, p26_82, p26_85, p26_86, p26_89, p26_90, p26_94, p26_95, p26_96, p26_97, p26_102, p26_107, p26_110, p26_111, p26_112, p26_115, p26_116, p26_119, p26_120, p26_123, p26_124, p26_127, p26_128, jwd_c, jwd_0, Nat.reduceLeDiff, Nat.reduceEqDiff, Nat.reduceAdd, Nat.reduceSub, Nat.reduceMul, Int.reduceAdd, Int.reduceSub, Int.reduceMul, Int.reduceNeg, Int.reduceEq, Int.reduceLT, Int.reduceLE, jq_ldi_i, jq_ldl_l, jq_lda_a, jq_inc_i, jq_gs_t, jq_gsb_t, jq_gb_t, jq_gr_2, jq_gr_4, jq_gw_2, jq_s_t, jq_b_t, jg_c, jg_n, js_c, js_n, jrm_c, jrm_n, j2_i, j2_l, j2_a, jq_c_i, jq_c_l, jq_c_0, jq_c_n, jwd_le, jw_c0, mS_I, mS_R, mS_J, mN_I, mN_R, mN_J, mR_I, mI_R, mJ_I, mJ_R, mI_J, mR_J, ↓reduceIte, decide_true, or_true, true_or, and_self, false_or, or_false, reduceCtorEq, Bool.false_eq_true, and_false, false_and, eq_self, true_and, and_true, zero_ne, ↓br_lt_t, ↓br_lt_f, ↓br_eq_t, ↓br_eq_f, ↓br_lz_t, ↓br_lz_f, ↓br_ez_t, ↓br_ez_f, ↓br_gz_t, ↓br_gz_f, jw_id, jin_t, jix_t, ↓ite_t, ↓ite_f, a1, a2, s65, h5, tg]
        · have f1 := fin false
          rw [e1, decide_eq_false y, Bool.true_and, ← f1, p26_27]
          simp (disch := omega) only [p26_0, p26_1, p26_2, p26_3, p26_4, p26_5, p26_7, p26_8, p26_12, p26_13, p26_16, p26_19, p26_20, p26_22, p26_25, p26_27, p26_29, p26_31, p26_34, p26_36, p26_39, p26_40, p26_43, p26_44, p26_47, p26_48, p26_49, p26_50, p26_53, p26_55, p26_58, p26_59, p26_65, p26_68, p26_73, p26_76, p26_77, p26_78, p26_81, p26_82, p26_85, p26_86, p26_89, p26_90, p26_94, p26_95, p26_96, p26_97, p26_102, p26_107, p26_110, p26_111, p26_112, p26_115, p26_116, p26_119, p26_120, p26_123, p26_124, p26_127, p26_128, jwd_c, jwd_0, Nat.reduceLeDiff, Nat.reduceEqDiff, Nat.reduceAdd, Nat.reduceSub, Nat.reduceMul, Int.reduceAdd, Int.reduceSub, Int.reduceMul, Int.reduceNeg, Int.reduceEq, Int.reduceLT, Int.reduceLE, jq_ldi_i, jq_ldl_l, jq_lda_a, jq_inc_i, jq_gs_t, jq_gsb_t, jq_gb_t, jq_gr_2, jq_gr_4, jq_gw_2, jq_s_t, jq_b_t, jg_c, jg_n, js_c, js_n, jrm_c, jrm_n, j2_i, j2_l, j2_a, jq_c_i, jq_c_l, jq_c_0, jq_c_n, jwd_le, jw_c0, mS_I, mS_R, mS_J, mN_I, mN_R, mN_J, mR_I, mI_R, mJ_I, mJ_R, mI_J, mR_J, ↓reduceIte, decide_true, or_true, true_or, and_self, false_or, or_false, reduceCtorEq, Bool.false_eq_true, and_false, false_and, eq_self, true_and, and_true, zero_ne, ↓br_lt_t, ↓br_lt_f, ↓br_eq_t, ↓br_eq_f, ↓br_lz_t, ↓br_lz_f, ↓br_ez_t, ↓br_ez_f, ↓br_gz_t, ↓br_gz_f, jw_id, jin_t, jix_t, ↓ite_t, ↓ite_f, a1, a2, s65, h5, tg, Bool.false_eq_true]
          rw [p26_62]
end WORDS
