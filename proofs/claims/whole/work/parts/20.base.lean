/-! Words for the runs: what stays, what a row of lines is. -/
theorem jg_c (q : Nat × jmV) (t : jmL) (i : Nat) : jg (q :: t) i = if q.1 = i then some q.2 else jg t i := rfl
theorem jg_n (i : Nat) : jg [] i = none := rfl
theorem js_c (q : Nat × jmV) (t : jmL) (i : Nat) (v : jmV) : js (q :: t) i v = if q.1 = i then (i, v) :: jrm t i else if q.1 + 1 = i ∧ j2 q.2 = true then js t i v else q :: js t i v := rfl
theorem js_n (i : Nat) (v : jmV) : js [] i v = [(i, v)] := rfl
theorem jrm_c (q : Nat × jmV) (t : jmL) (i : Nat) : jrm (q :: t) i = if q.1 = i then jrm t i else if q.1 + 1 = i ∧ j2 q.2 = true then jrm t i else q :: jrm t i := rfl
theorem jrm_n (i : Nat) : jrm [] i = [] := rfl
theorem j2_i (x : Int) : j2 (.inl x) = false := rfl
theorem j2_l (x : Int) : j2 (.inr (.inl x)) = true := rfl
theorem j2_a (x : Option Nat) : j2 (.inr (.inr x)) = false := rfl
theorem jw_c0 : jw 0 = 0 := by decide
theorem zero_ne : ((1 : Int) = 0) = False := by simp
theorem jwd_0 : jwd [] = 0 := rfl
theorem jwd_c (v : jmV) (t : List jmV) : jwd (v :: t) = (if j2 v = true then 2 else 1) + jwd t := by
  unfold jwd
  rw [List.map_cons, List.sum_cons]
theorem jwd_le : decide (jwd [] ≤ 8) = true := rfl
theorem mS_I (w : jmW) (a k : Nat) (x : Int) : mS (setI w a k x) = mS w := rfl
theorem mS_R (w : jmW) (a k : Nat) (x : Option Nat) : mS (setR w a k x) = mS w := rfl
theorem mS_J (w : jmW) (a k : Nat) (x : Int) : mS (setJ w a k x) = mS w := rfl
theorem mN_I (w : jmW) (a k : Nat) (x : Int) : mN (setI w a k x) = mN w := rfl
theorem mN_R (w : jmW) (a k : Nat) (x : Option Nat) : mN (setR w a k x) = mN w := rfl
theorem mN_J (w : jmW) (a k : Nat) (x : Int) : mN (setJ w a k x) = mN w := rfl
theorem mR_I (w : jmW) (a k : Nat) (x : Int) : mR (setI w a k x) = mR w := rfl
theorem mI_R (w : jmW) (a k : Nat) (x : Option Nat) : mI (setR w a k x) = mI w := rfl
theorem mJ_I (w : jmW) (a k : Nat) (x : Int) : mJ (setI w a k x) = mJ w := rfl
theorem mJ_R (w : jmW) (a k : Nat) (x : Option Nat) : mJ (setR w a k x) = mJ w := rfl
theorem mI_J (w : jmW) (a k : Nat) (x : Int) : mI (setJ w a k x) = mI w := rfl
theorem mR_J (w : jmW) (a k : Nat) (x : Int) : mR (setJ w a k x) = mR w := rfl
theorem mI_s (w : jmW) (a k : Nat) (x : Int) : mI (setI w a k x) a k = x := if_pos ⟨rfl, rfl⟩
theorem mI_na {w : jmW} {a b k j : Nat} {x : Int} (h : b ≠ a) : mI (setI w a k x) b j = mI w b j := if_neg (fun z => h z.1)
theorem mI_nb {w : jmW} {a b k : Nat} {x : Int} (h : b ≠ a) : mI (setI w a k x) b = mI w b := by
  funext j
  exact mI_na h
theorem mI_nk {w : jmW} {a k j : Nat} {x : Int} (h : j ≠ k) : mI (setI w a k x) a j = mI w a j := if_neg (fun z => h z.2)
theorem mR_s (w : jmW) (a k : Nat) (x : Option Nat) : mR (setR w a k x) a k = x := if_pos ⟨rfl, rfl⟩
theorem mR_nb {w : jmW} {a b k : Nat} {x : Option Nat} (h : b ≠ a) : mR (setR w a k x) b = mR w b := by
  funext j
  exact if_neg (fun z => h z.1)
theorem mR_nk {w : jmW} {a k j : Nat} {x : Option Nat} (h : j ≠ k) : mR (setR w a k x) a j = mR w a j := if_neg (fun z => h z.2)
/-- in the range of an int -/
def i32 (z : Int) : Prop := -2147483648 ≤ z ∧ z < 2147483648
theorem jin_t {j : Int} {n : Nat} (h1 : 0 ≤ j) (h2 : j < n) (h3 : (n : Int) ≤ 2147483647) : jin j n = true := by
  have := jw_id (z := j) (by omega) (by omega)
  unfold jin
  rw [this]
  exact decide_eq_true ⟨h1, h2⟩
theorem jix_t {j : Int} (h1 : 0 ≤ j) (h2 : j < 2147483648) : jix j = j.toNat := by
  unfold jix
  rw [jw_id (by omega) h2]
theorem br_lt_t {α : Type} {x y : Int} {A C : α} (h : x < y) (hx1 : -2147483648 ≤ x) (hx2 : x < 2147483648) (hy1 : -2147483648 ≤ y) (hy2 : y < 2147483648) : (if jw x < jw y then A else C) = A := by
  rw [jw_id hx1 hx2, jw_id hy1 hy2]
  exact if_pos h
theorem br_lt_f {α : Type} {x y : Int} {A C : α} (h : ¬ x < y) (hx1 : -2147483648 ≤ x) (hx2 : x < 2147483648) (hy1 : -2147483648 ≤ y) (hy2 : y < 2147483648) : (if jw x < jw y then A else C) = C := by
  rw [jw_id hx1 hx2, jw_id hy1 hy2]
  exact if_neg h
theorem br_eq_t {α : Type} {x y : Int} {A C : α} (h : x = y) (hx1 : -2147483648 ≤ x) (hx2 : x < 2147483648) (hy1 : -2147483648 ≤ y) (hy2 : y < 2147483648) : (if jw x = jw y then A else C) = A := by
  rw [jw_id hx1 hx2, jw_id hy1 hy2]
  exact if_pos h
theorem br_eq_f {α : Type} {x y : Int} {A C : α} (h : ¬ x = y) (hx1 : -2147483648 ≤ x) (hx2 : x < 2147483648) (hy1 : -2147483648 ≤ y) (hy2 : y < 2147483648) : (if jw x = jw y then A else C) = C := by
  rw [jw_id hx1 hx2, jw_id hy1 hy2]
  exact if_neg h
theorem br_lz_t {α : Type} {x : Int} {A C : α} (h : x < 0) (hx1 : -2147483648 ≤ x) (hx2 : x < 2147483648) : (if jw x < 0 then A else C) = A := by
  rw [jw_id hx1 hx2]
  exact if_pos h
theorem br_lz_f {α : Type} {x : Int} {A C : α} (h : ¬ x < 0) (hx1 : -2147483648 ≤ x) (hx2 : x < 2147483648) : (if jw x < 0 then A else C) = C := by
  rw [jw_id hx1 hx2]
  exact if_neg h
theorem br_ez_t {α : Type} {x : Int} {A C : α} (h : x = 0) (hx1 : -2147483648 ≤ x) (hx2 : x < 2147483648) : (if jw x = 0 then A else C) = A := by
  rw [jw_id hx1 hx2]
  exact if_pos h
theorem br_ez_f {α : Type} {x : Int} {A C : α} (h : ¬ x = 0) (hx1 : -2147483648 ≤ x) (hx2 : x < 2147483648) : (if jw x = 0 then A else C) = C := by
  rw [jw_id hx1 hx2]
  exact if_neg h
theorem br_gz_t {α : Type} {x : Int} {A C : α} (h : 0 < x) (hx1 : -2147483648 ≤ x) (hx2 : x < 2147483648) : (if 0 < jw x then A else C) = A := by
  rw [jw_id hx1 hx2]
  exact if_pos h
theorem br_gz_f {α : Type} {x : Int} {A C : α} (h : ¬ 0 < x) (hx1 : -2147483648 ≤ x) (hx2 : x < 2147483648) : (if 0 < jw x then A else C) = C := by
  rw [jw_id hx1 hx2]
  exact if_neg h
theorem ite_t {α : Type} {c : Prop} [Decidable c] {A C : α} (h : c) : (if c then A else C) = A := if_pos h
theorem ite_f {α : Type} {c : Prop} [Decidable c] {A C : α} (h : ¬ c) : (if c then A else C) = C := if_neg h
/-- all else stays -/
def Fr (P : Nat → Prop) (w u : jmW) : Prop := mS u = mS w ∧ mN u = mN w ∧ mK u = mK w ∧ ∀ b, ¬ P b → mI u b = mI w b ∧ mR u b = mR w b ∧ mJ u b = mJ w b
theorem Fr.rf (P : Nat → Prop) (w : jmW) : Fr P w w := ⟨rfl, rfl, rfl, fun _ _ => ⟨rfl, rfl, rfl⟩⟩
theorem Fr.tr {P : Nat → Prop} {w u v : jmW} (h1 : Fr P w u) (h2 : Fr P u v) : Fr P w v := by
  obtain ⟨a1, a2, a3, a4⟩ := h1
  obtain ⟨b1, b2, b3, b4⟩ := h2
  refine ⟨b1.trans a1, b2.trans a2, b3.trans a3, fun b hb => ?_⟩
  obtain ⟨c1, c2, c3⟩ := a4 b hb
  obtain ⟨d1, d2, d3⟩ := b4 b hb
  exact ⟨d1.trans c1, d2.trans c2, d3.trans c3⟩
theorem Fr.mo {P P2 : Nat → Prop} {w u : jmW} (h : Fr P w u) (hP : ∀ b, P b → P2 b) : Fr P2 w u := ⟨h.1, h.2.1, h.2.2.1, fun b hb => h.2.2.2 b (fun z => hb (hP b z))⟩
theorem Fr.I {P : Nat → Prop} {w : jmW} {a k : Nat} {x : Int} (h : P a) : Fr P w (setI w a k x) := by
  refine ⟨rfl, rfl, rfl, fun b hb => ⟨?_, rfl, rfl⟩⟩
  exact mI_nb (fun z => hb (by rw [z]; exact h))
theorem Fr.R {P : Nat → Prop} {w : jmW} {a k : Nat} {x : Option Nat} (h : P a) : Fr P w (setR w a k x) := by
  refine ⟨rfl, rfl, rfl, fun b hb => ⟨rfl, ?_, rfl⟩⟩
  exact mR_nb (fun z => hb (by rw [z]; exact h))
/-- a Sheet at a: columns, room, and what its lines hold, one behind the other -/
def Sh (w : jmW) (a c r : Nat) (F : List Int) (n : Nat) : Prop :=
  mS w a = (1, 5, 0) ∧ mS w (a + 1) = (2, 0, r * c) ∧ mR w a 0 = some (a + 1) ∧ mI w a 1 = c ∧ mI w a 2 = r ∧ mI w a 3 = n ∧ F.length = n * c ∧ n ≤ r ∧ 1 ≤ c ∧ r * c ≤ 5000 ∧ ∀ k, k < F.length → mI w (a + 1) k = F.getD k 0
theorem Sh.fr {P : Nat → Prop} {w u : jmW} {a c r : Nat} {F : List Int} {n : Nat} (h : Sh w a c r F n) (hf : Fr P w u) (h1 : ¬ P a) (h2 : ¬ P (a + 1)) : Sh u a c r F n := by
  obtain ⟨f1, -, -, f4⟩ := hf
  obtain ⟨e1, e2, -⟩ := f4 a h1
  obtain ⟨e3, -, -⟩ := f4 (a + 1) h2
  unfold Sh at h ⊢
  rw [f1, e1, e2, e3]
  exact h
