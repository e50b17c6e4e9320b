/-! Pure: what is told of sides; what the acts keep. -/
def B28 (H : Nat → Nat → Int) : Prop := ∀ k, 0 ≤ H 28 k ∧ H 28 k ≤ 3
section B28S
variable {T : Nat → Int} {n p : Nat} {H H2 : Nat → Nat → Int}
theorem b28_0 : B28 gH0 := fun k => by
  have e : gH0 28 k = 0 := rfl
  omega
theorem B28.cg (h : B28 H) (e : ∀ k, H2 28 k = H 28 k) : B28 H2 := fun k => by
  rw [e k]
  exact h k
theorem way_28 : ∀ (m p : Nat) (H : Nat → Nat → Int), B28 H → B28 (gWay T n m p H).2 := by
  intro m
  induction m with
  | zero => intro p H h; exact h
  | succ m ih =>
    intro p H h
    have e : gWay T n (m + 1) p H = (match pM T n H p with
      | .inr x => (.inr x, H)
      | .inl q => if tK T n q = 4 then gWay T n m (tE T n q) (pMH T n H p) else (.inl q, pMH T n H p)) := rfl
    rw [e]
    cases hq : pM T n H p with
    | inr x => exact h
    | inl q =>
      obtain ⟨g1, -⟩ := pM_i hq
      obtain ⟨a, ea, -, v1, v2⟩ := pO_i g1
      have v3 : pI T n (cs wSd) (.inl p) < 4 := v2
      have h2 : B28 (pMH T n H p) := fun k => by
        show 0 ≤ uH (uH H 28 (H 0 6).toNat (pI T n (cs wSd) (.inl p))) 0 6 (H 0 6 + 1) 28 k ∧ uH (uH H 28 (H 0 6).toNat (pI T n (cs wSd) (.inl p))) 0 6 (H 0 6 + 1) 28 k ≤ 3
        rw [uH_n (by omega)]
        by_cases z : k = (H 0 6).toNat
        · rw [z, uH_s]
          omega
        · rw [uH_n (by omega)]
          exact h k
      show B28 (if tK T n q = 4 then gWay T n m (tE T n q) (pMH T n H p) else (.inl q, pMH T n H p)).2
      split
      · exact ih _ _ h2
      · exact h2
theorem ld_28 (h : B28 H) : B28 (qLd T n H p).2 := by
  unfold qLd
  split
  · exact h
  · split
    · exact way_28 _ _ _ (h.cg (fun k => uH_n (by omega)))
    · show B28 (uH H 0 7 _)
      exact h.cg (fun k => uH_n (by omega))
theorem rd_28 {l : Int} (l0 : 0 ≤ l) (l9 : l ≤ 9) (h : B28 H) : B28 (gRd T n H l p).2 := by
  by_cases l0' : l = 0
  · subst l0'
    rw [rd_0]
    refine h.cg (fun k => ?_)
    show qHH T n H p 28 k = _
    unfold qHH qhH
    rw [uH_n (by omega), uH_n (by omega), uH_n (by omega), uH_n (by omega), uH_n (by omega)]
  by_cases l1' : l = 1
  · subst l1'
    rw [rd_1]
    exact h.cg (fun k => show qRH T n H (H 0 2 * H 0 0).toNat p 28 k = H 28 k from (uH_n (by omega)).trans (gh_n (by omega)))
  by_cases l2' : l = 2
  · subst l2'
    rw [rd_2]
    exact h.cg (fun k => show qbH T n H (.inl p) 28 k = H 28 k from (uH_n (by omega)).trans (uH_n (by omega)))
  by_cases l3' : l = 3
  · subst l3'
    rw [rd_3]
    exact h.cg (fun k => show qmH T n H (.inl p) 28 k = H 28 k from uH_n (by omega))
  by_cases l4' : l = 4
  · subst l4'
    rw [rd_4]
    exact h.cg (fun k => stp_a _ _ _ _ _ (by omega))
  by_cases l5' : l = 5
  · subst l5'
    rw [rd_5]
    exact ld_28 h
  by_cases l6' : l = 6
  · subst l6'
    rw [rd_6]
    exact h.cg (fun k => show qTH T n H p 28 k = H 28 k from (uH_n (by omega)).trans ((rowH_n (by omega) (by omega)).trans (uH_n (by omega))))
  by_cases l7' : l = 7
  · subst l7'
    rw [rd_7]
    exact h.cg (fun k => show qdH T n H (.inl p) 28 k = H 28 k from rowH_n (by omega) (by omega))
  by_cases l8' : l = 8
  · subst l8'
    rw [rd_8]
    exact h.cg (fun k => show qsH T n H p 28 k = H 28 k from (uH_n (by omega)).trans (uH_n (by omega)))
  have l9' : l = 9 := by omega
  subst l9'
  rw [rd_9]
  exact h.cg (fun k => show qfH T n H (.inl p) 28 k = H 28 k from rowH_n (by omega) (by omega))
theorem ln_28 (h : B28 H) : B28 (gLn T n p H).2 := by
  have eF : gLf T n H p = if pI T n (cs wLn) (.inl p) < 0 then 1 else gFa H (pI T n (cs wLn) (.inl p)) := rfl
  have eL : gLn T n p H = if gLf T n H p = 0 then gRd T n H (pI T n (cs wLn) (.inl p)) (tE T n p) else (.inr (gLf T n H p, (tS T n p : Int)), H) := rfl
  have eI : pI T n (cs wLn) (.inl p) = if tK T n p = 1 then gWi (cs wLn) (tW T n p) 0 else -1 := rfl
  have b6 := wi_bd (cs wLn) (tW T n p) 0 (by omega)
  have l6 : ((cs wLn).length : Int) = 10 := rfl
  rw [eL]
  by_cases z : gLf T n H p = 0
  · rw [if_pos z]
    have l0 : 0 ≤ pI T n (cs wLn) (.inl p) := by
      by_cases y : pI T n (cs wLn) (.inl p) < 0
      · rw [if_pos y] at eF
        omega
      · omega
    have k1 := pi_k l0
    rw [if_pos k1] at eI
    exact rd_28 l0 (by omega) h
  · rw [if_neg z]
    exact h
theorem read_28 : ∀ (m p : Nat) (H : Nat → Nat → Int), B28 H → B28 (gRead T n m p H).2 := by
  intro m
  induction m with
  | zero => intro p H h; exact h
  | succ m ih =>
    intro p H h
    have l := ln_28 (T := T) (n := n) (p := p) h
    have e : gRead T n (m + 1) p H = (match gLn T n p H with
      | (.inr x, H2) => (.inr x, H2)
      | (.inl q, H2) => if tK T n q = 5 then (if H2 0 5 < 1 ∨ H2 0 7 < 0 ∨ H2 0 13 < 0 then (.inr (6, (n : Int)), H2) else (.inl q, H2)) else if tK T n q = 3 then gRead T n m (tE T n q) H2 else (.inr (1, (tS T n q : Int)), H2)) := rfl
    rw [e]
    generalize gLn T n p H = G at *
    obtain ⟨s2, H2⟩ := G
    cases s2 with
    | inr x => exact l
    | inl q =>
      dsimp only
      split
      · split
        · exact l
        · exact l
      · split
        · exact ih _ _ l
        · exact l
end B28S
def GK (H : Nat → Nat → Int) (B : Int) (r : Nat → Int) : Prop := RI H B r ∧ r 289 ≤ r 290
def GS (H : Nat → Nat → Int) (B : Int) (s : gSt) : Prop := GK H B s.1 ∧ s.2.1 ≤ 10 ∧ (∀ i, i < s.2.1 → GK H B (s.2.2.1 i)) ∧ s.2.2.2.1 ≤ 3 ∧ ∀ i, i < s.2.2.2.1 → GK H B (s.2.2.2.2 i)
section GKS
variable {H : Nat → Nat → Int} {B B2 : Int} {r q S g : Nat → Int} {s : gSt}
theorem RI.mo (h : RI H B r) (b : B ≤ B2) : RI H B2 r := ⟨h.1.mo b, h.2⟩
theorem GK.mo (h : GK H B r) (b : B ≤ B2) : GK H B2 r := ⟨h.1.mo b, h.2⟩
theorem GS.mo (h : GS H B s) (b : B ≤ B2) : GS H B2 s := ⟨h.1.mo b, h.2.1, fun i hi => (h.2.2.1 i hi).mo b, h.2.2.2.1, fun i hi => (h.2.2.2.2 i hi).mo b⟩
theorem GK.cp (h : GK H B r) : GK H B (gCp r q) := ⟨rQ.cp.ri h.1, by rw [show gCp r q 289 = r 289 from if_pos (by omega), show gCp r q 290 = r 290 from if_pos (by omega)]; exact h.2⟩
theorem pu_gk {n k : Nat} {Q : Nat → Nat → Int} (h : ∀ i, i < k → GK H B (Q i)) (hr : GK H B r) : ∀ i, i < gPuK n k → GK H B (gPuQ n k Q r i) := fun i hi => by
  unfold gPuK at hi
  unfold gPuQ
  by_cases z : k = n
  · rw [if_pos z] at hi
    show GK H B (if k = n then (if i + 1 < n then Q (i + 1) else r) else (if i < k then Q i else r))
    rw [if_pos z]
    by_cases y : i + 1 < n
    · rw [if_pos y]
      exact h _ (by omega)
    · rw [if_neg y]
      exact hr
  · rw [if_neg z] at hi
    show GK H B (if k = n then (if i + 1 < n then Q (i + 1) else r) else (if i < k then Q i else r))
    rw [if_neg z]
    by_cases y : i < k
    · rw [if_pos y]
      exact h _ y
    · rw [if_neg y]
      exact hr
theorem GS.ps (h : GS H B s) : GS H B (gPs s) := by
  refine ⟨h.1, ?_, pu_gk h.2.2.1 h.1, h.2.2.2⟩
  show gPuK 10 s.2.1 ≤ 10
  have := h.2.1
  unfold gPuK
  split <;> omega
theorem GS.rw (h : GS H B s) (hr : GK H B r) : GS H B (gRw s r) := ⟨hr, h.2⟩
theorem gs_38 (h : GS H B s) {l : Int} : GS H B (A38 s l).2.2 := by
  unfold A38
  split
  · split
    · exact h
    · refine (h.ps).rw ⟨u_ri h.1.1 (Or.inl ⟨rfl, by omega, by omega⟩), ?_⟩
      rw [up1_n (by omega), up1_n (by omega)]
      exact h.1.2
  · exact h
theorem gs_42 (h : GS H B s) {v : Int} : GS H B (A42 s v).2.2 := by
  unfold A42
  split
  · refine h.rw ⟨u_ri h.1.1 (Or.inr (Or.inl ⟨rfl, by omega, by omega⟩)), ?_⟩
    rw [up1_n (by omega), up1_n (by omega)]
    exact h.1.2
  · exact h
theorem gs_40 (h : GS H B s) {i : Int} : GS H B (A40 s i).2.2 := by
  unfold A40
  split
  · split
    · exact h
    · obtain ⟨⟨ra, rb, rw0, rp, r203⟩, hn⟩ := h.1
      obtain ⟨o1, o2, o3, o4⟩ := out_ok ra rb rw0 rp (i := i) (by omega) (by omega)
      refine (h.ps).rw ⟨⟨o1, o2, o3, o4, ?_⟩, ?_⟩
      · rw [gOut_hi (by omega) (by omega)]
        exact r203
      · rw [gOut_289, gOut_hi (by omega) (by omega)]
        omega
  · exact h
theorem band_ri (h : RI H B r) {x : Int} (x0 : 0 ≤ x) (x1 : x < H 1 0) (h10 : 0 ≤ H 0 10) : RI H B (up1 r 296 x) := by
  obtain ⟨ra, rb, rw0, rp, r203⟩ := h
  have e : ∀ k, k ≠ 296 → up1 r 296 x k = r k := fun k hk => up1_n hk
  have h16 := ra.1
  have e289 := e 289 (by omega)
  have e288 := e 288 (by omega)
  have e290 := e 290 (by omega)
  refine ⟨?_, fun i i1 i2 => ?_, ⟨fun k k1 k2 => ?_, fun k k1 k2 => ?_⟩, ⟨?_, fun i i1 i2 => ?_⟩, by rw [e288]; exact r203⟩
  · unfold RA at ra ⊢
    simp (disch := omega) only [up1_n, up1_s]
    omega
  · rw [e289] at i2
    have := rb i i1 i2
    rw [e288, e290, e _ (by omega), e _ (by omega), e _ (by omega), e _ (by omega), e _ (by omega)]
    exact this
  · rw [e288] at k2
    rw [e _ (by omega)]
    exact rw0.1 k k1 k2
  · rw [e288] at k2
    rw [e _ (by omega), e _ (by omega)]
    exact rw0.2 k k1 k2
  · rw [e 220 (by omega), e288]
    exact rp.1
  · rw [e289] at i2
    rw [e _ (by omega), e _ (by omega)]
    exact rp.2 i i1 i2
theorem gs_41 (hk : HOK H) (h : GS H B s) {x y : Int} : GS H B (A41 H s x y).2.2 := by
  unfold A41
  split
  · rename_i q
    split
    · rename_i q2
      split
      · exact h
      · have c := cell_in hk q.1
        have ra := h.1.1.1
        refine (h.ps).rw ⟨band_ri h.1.1 (by omega) (by omega) (ra.2.2.2.2.2.2.2.2.2.2.2.2.2.2.2.1 q2), ?_⟩
        rw [up1_n (by omega), up1_n (by omega)]
        exact h.1.2
    · exact h
  · exact h
theorem gs_39 (h : GS H B s) {i j : Int} : GS H B (A39 s i j).2.2 := by
  unfold A39
  split
  · rename_i q
    have h16 := h.1.1.1.1
    have k := fun (f g : Nat → Int) (a b : Int) (m : Nat) (hm : m < 204 ∨ 284 ≤ m) (a0 : 0 ≤ a) (a1 : a < 16) => tk_keep (r := f) (q := g) (i := a) (j := b) m hm a0 a1
    have t1 := tk_ri (i := i) (j := j) h.1.1 h.1.1 rfl rfl (by omega) (by omega) (by omega) (by omega)
    have t2 := tk_ri (i := j) (j := i) t1 h.1.1 (k _ _ _ _ 290 (by omega) (by omega) (by omega)) (k _ _ _ _ 289 (by omega) (by omega) (by omega)) (by omega) (by omega) (by omega) (by omega)
    refine (h.ps).rw ⟨t2, ?_⟩
    show gTake (gTake s.1 s.1 i j) s.1 j i 289 ≤ gTake (gTake s.1 s.1 i j) s.1 j i 290
    rw [k _ _ _ _ 289 (by omega) (by omega) (by omega), k _ _ _ _ 289 (by omega) (by omega) (by omega), k _ _ _ _ 290 (by omega) (by omega) (by omega), k _ _ _ _ 290 (by omega) (by omega) (by omega)]
    exact h.1.2
  · exact h
theorem gs_43 (h : GS H B s) : GS H B (A43 s).2.2 := by
  unfold A43
  split
  · exact h
  · rename_i q
    exact ⟨(h.2.2.1 _ (by omega)).cp, by show s.2.1 - 1 ≤ 10; have := h.2.1; omega, fun i hi => h.2.2.1 i (by have hi : i < s.2.1 - 1 := hi; omega), h.2.2.2⟩
theorem gs_44 (h : GS H B s) : GS H B (A44 s).2.2 := by
  unfold A44
  split
  · exact h
  · rename_i q
    refine ⟨h.1, h.2.1, h.2.2.1, by show s.2.2.2.1 + 1 ≤ 3; have := h.2.2.2.1; omega, ?_⟩
    have p := pu_gk (n := 3) h.2.2.2.2 h.1
    have e : gPuK 3 s.2.2.2.1 = s.2.2.2.1 + 1 := if_neg q
    rw [e] at p
    exact p
theorem gs_45 (h : GS H B s) {m : Int} : GS H B (A45 s m).2.2 := by
  unfold A45
  split
  · rename_i q
    exact ⟨(h.2.2.2.2 _ (by omega)).cp, by show 0 ≤ 10; omega, fun i hi => absurd hi (by show ¬ i < (0 : Nat); omega), h.2.2.2⟩
  · exact h
theorem gs_37 (b : fB H s.1 S s.1 g B) (h : GS H B s) {n : Int} : GS H (B + 20) (A37 H S g s n).2.2 := by
  have h' := h.mo (show B ≤ B + 20 by omega)
  unfold A37
  split
  · split
    · rename_i q _
      have z0 := zb0 (g := g) b.i b.2.2.2.1.1 (p := -1) (Or.inl rfl)
      have k6 := b.1.2.1
      have f1 := fr_zb (L := H 0 6) (p := -1) b.1 (by omega) b.s1 n.toNat (gZ0 s.1 g) B z0
      have f2 := fr_rn (L := H 0 6) (p := -1) b.1 (by omega) b.s1 n.toNat (gZ0 s.1 g) B z0 (by show s.1 289 + 0 ≤ s.1 290; have := h.1.2; omega)
      have f3 := fr_hi (L := H 0 6) (p := -1) b.1 (by omega) b.s1 n.toNat (gZ0 s.1 g) B z0
      refine (h'.ps).rw ⟨?_, ?_⟩
      · have f1 : RI H (B + n.toNat) (gFr H (H 0 6) S (-1) n.toNat (gZ0 s.1 g)).1.1 := f1.1
        exact f1.mo (by omega)
      · have f4 := (f3.2.2 (by show (0 : Int) ≤ 0; omega) (by show ((-2 : Int) < 0 ↔ (0 : Int) = 0); omega)).1
        show (gFr H (H 0 6) S (-1) n.toNat (gZ0 s.1 g)).1.1 289 ≤ (gFr H (H 0 6) S (-1) n.toNat (gZ0 s.1 g)).1.1 290
        omega
    · exact h'
  · exact h'
theorem gs_0 (hk : HOK H) (hs : HS H) : GS H 0 (gCp (gS0 H) q, 0, (fun _ _ => 0), 0, fun _ _ => 0) := by
  have r := ri_S0 hk hs (B := 0) (by omega)
  have g : GK H 0 (gS0 H) := r
  exact ⟨g.cp, by show 0 ≤ 10; omega, fun i hi => absurd hi (by show ¬ i < (0 : Nat); omega), by show 0 ≤ 3; omega, fun i hi => absurd hi (by show ¬ i < (0 : Nat); omega)⟩
end GKS
