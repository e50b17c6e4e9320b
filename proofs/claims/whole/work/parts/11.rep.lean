/-! What it means that a heap holds a world. -/
def jm_el (w : jmW) (a tg j : Nat) : jmV := if tg = 2 then .inr (.inl (mJ w a j)) else if tg = 3 then .inr (.inr (mR w a j)) else .inl (mI w a j)
abbrev jm_tys (cA : Nat → ClassId) : List (ClassId × FieldType) := [(cA 0, .int), (cA 1, .byte), (cA 2, .long), (cA 3, .object RX4)]
def jm_obj (D : va_G) (ad : Nat → Nat) (w : jmW) (a ci : Nat) (H : Heap) : Prop := ∃ q, vwCl[ci]? = some q ∧ t_OB (ad a) (D.1 ci) q.2.2 (D.2 ci) H (fun k => jem ad (jm_fd w a ci k))
def jm_arr (cA : Nat → ClassId) (ad : Nat → Nat) (w : jmW) (a tg n : Nat) (H : Heap) : Prop := H[ad a]? = some (arrV (cA tg) n (fun j => jem ad (jm_el w a tg j)))
def jm_rep (D : va_G) (cA : Nat → ClassId) (ad : Nat → Nat) (B : Nat) (H0 : Heap) (w : jmW) (s : State) (H : Heap) : Prop :=
  H.size = B + mN w ∧ (∀ q, q < B → H[q]? = H0[q]?) ∧
  (∀ a ci z, mS w a = (1, ci, z) → 64 ≤ a ∧ a < 64 + mN w ∧ jm_obj D ad w a ci H) ∧
  (∀ a tg n, mS w a = (2, tg, n) → 64 ≤ a ∧ a < 64 + mN w ∧ n < 2147483648 ∧ tg < 4 ∧ jm_arr cA ad w a tg n H) ∧
  (∀ a tg n, mS w a = (4, tg, n) → a < 64 ∧ ad a < B ∧ tg = 0 ∧ n < 2147483648 ∧ ∃ scr, H0[ad a]? = some scr ∧ s.isArrayOf scr .int ∧ scr.vm ≠ .unknown ∧ n ≤ scr.slots.size ∧ scr.slots.size.toInt32 = Int32.ofNat n ∧ ∀ j, j < n → scr.slots[j]? = some (.int (Int32.ofInt (mI w a j)))) ∧
  (∀ a k z, mS w a = (3, k, z) → k < 43 ∧ a = 2 + k)
def jm_KS (ad adV : Nat → Nat) (B : Nat) (H0 : Heap) (s : State) : Prop :=
  (∀ q ∈ jmK_3 ++ jmK_9, q.2.1.1 = 7 → vk_R (jm_own q.1.1) q.1.2 (jmTx.getD (q.2.1.2.1 - 2) "") (ad q.2.1.2.1) s) ∧
  vk_S 43 (jmTx.map String.length) (jmTx.map (fun t => t.toList.map (fun c => Int32.ofNat c.toNat))) (fun k => ad (2 + k)) adV (fun q => B ≤ q) s H0 ∧
  va_Z RX0 "TURNS" "[I" (.ref (ad 1)) (fun q => B ≤ q) s H0 ∧
  va_Z "java/lang/String" "COMPACT_STRINGS" "Z" (.int 1) (fun q => B ≤ q) s H0 ∧
  va_Zq "jdk/internal/util/Preconditions" "SIOOBE_FORMATTER" "Ljava/util/function/BiFunction;" (fun q => B ≤ q) s H0
def jm_KK (D : va_G) (cA : Nat → ClassId) (ad adV : Nat → Nat) (B : Nat) (H0 : Heap) (s : State) : Prop := va_K D vwCl (jm_tys cA) s ∧ va_AO RX4 s ∧ jm_KS ad adV B H0 s
theorem jm_KK.warm {D : va_G} {cA : Nat → ClassId} {ad adV : Nat → Nat} {B : Nat} {H0 : Heap} {s U : State} (hW : s.WarmedH U.vm) (h : jm_KK D cA ad adV B H0 s) : jm_KK D cA ad adV B H0 U := by
  obtain ⟨h1, h2, h3, h4, h5, h6, h7⟩ := h
  exact ⟨va_K.moved hW.alike h1, va_AO.moved hW.alike h2, fun q hq hk => vk_R.warm hW (h3 q hq hk), vk_S.moved hW.alike h4, va_Z.moved hW.alike h5, va_Z.moved hW.alike h6, va_Zq.moved hW.alike h7⟩
theorem jm_rep.warm {D : va_G} {cA : Nat → ClassId} {ad : Nat → Nat} {B : Nat} {H0 : Heap} {w : jmW} {s U : State} {H : Heap} (hvm : s.vm.Alike U.vm) (h : jm_rep D cA ad B H0 w s H) : jm_rep D cA ad B H0 w U H := by
  obtain ⟨h1, h2, h3, h4, h5, h6⟩ := h
  refine ⟨h1, h2, h3, h4, fun a tg n ha => ?_, h6⟩
  obtain ⟨g1, g2, g3, g4, scr, g5, g6, g7⟩ := h5 a tg n ha
  exact ⟨g1, g2, g3, g4, scr, g5, State.isArrayOf_alike hvm g6, g7⟩
section REP
variable {D : va_G} {cA : Nat → ClassId} {ad : Nat → Nat} {B : Nat} {H0 : Heap} {s : State}
/-- one cell written -/
theorem rep_upd (had : ∀ j, ad (64 + j) = B + j) {w w1 : jmW} {H H1 : Heap} {a : Nat} (h : jm_rep D cA ad B H0 w s H) (ha : 64 ≤ a) (hS : mS w1 = mS w) (hN : mN w1 = mN w) (hI : ∀ b, b ≠ a → mI w1 b = mI w b) (hR : ∀ b, b ≠ a → mR w1 b = mR w b) (hJ : ∀ b, b ≠ a → mJ w1 b = mJ w b) (hz : H1.size = H.size) (hq : ∀ q, q ≠ ad a → H1[q]? = H[q]?)
    (ho : ∀ ci z, mS w a = (1, ci, z) → jm_obj D ad w1 a ci H1) (hr : ∀ tg n, mS w a = (2, tg, n) → jm_arr cA ad w1 a tg n H1) : jm_rep D cA ad B H0 w1 s H1 := by
  obtain ⟨h1, h2, h3, h4, h5, h6⟩ := h
  have far : ∀ b, 64 ≤ b → b ≠ a → ad b ≠ ad a := by
    intro b hb hba e
    have e1 := had (b - 64)
    have e2 := had (a - 64)
    rw [show 64 + (b - 64) = b by omega] at e1
    rw [show 64 + (a - 64) = a by omega] at e2
    omega
  have haB : ∀ q, q < B → q ≠ ad a := by
    intro q hqB e
    have e2 := had (a - 64)
    rw [show 64 + (a - 64) = a by omega] at e2
    omega
  refine ⟨by rw [hz, h1, hN], fun q hqB => (hq q (haB q hqB)).trans (h2 q hqB), ?_, ?_, ?_, ?_⟩
  · intro b ci z hb
    rw [hS] at hb
    obtain ⟨g1, g2, q, g3, g4⟩ := h3 b ci z hb
    refine ⟨g1, by rw [hN]; exact g2, ?_⟩
    by_cases hba : b = a
    · subst hba
      exact ho ci z hb
    · refine ⟨q, g3, (g4.kept (hq _ (far b g1 hba))).to (fun k _ => ?_)⟩
      unfold jm_fd
      rw [hI b hba, hR b hba, hJ b hba]
  · intro b tg n hb
    rw [hS] at hb
    obtain ⟨g1, g2, g3, g4, g5⟩ := h4 b tg n hb
    refine ⟨g1, by rw [hN]; exact g2, g3, g4, ?_⟩
    by_cases hba : b = a
    · subst hba
      exact hr tg n hb
    · unfold jm_arr
      rw [hq _ (far b g1 hba)]
      rw [show (fun j => jem ad (jm_el w1 b tg j)) = (fun j => jem ad (jm_el w b tg j)) from by
        funext j
        unfold jm_el
        rw [hI b hba, hR b hba, hJ b hba]]
      exact g5
  · intro b tg n hb
    rw [hS] at hb
    obtain ⟨g1, g2, g3, g4, scr, g5, g6, g7, g8, g9, g10⟩ := h5 b tg n hb
    refine ⟨g1, g2, g3, g4, scr, g5, g6, g7, g8, g9, fun j hj => ?_⟩
    rw [hI b (by omega)]
    exact g10 j hj
  · intro b k z hb
    rw [hS] at hb
    exact h6 b k z hb
/-- a cell made -/
theorem rep_new (had : ∀ j, ad (64 + j) = B + j) {w : jmW} {sh : Nat × Nat × Nat} {n : Nat} {H H1 : Heap} (h : jm_rep D cA ad B H0 w s H) (hz : H1.size = H.size + 1) (hq : ∀ q, q < H.size → H1[q]? = H[q]?)
    (ho : ∀ ci z, sh = (1, ci, z) → jm_obj D ad (newC w sh n) (64 + mN w) ci H1) (hr : ∀ tg k, sh = (2, tg, k) → k < 2147483648 ∧ tg < 4 ∧ jm_arr cA ad (newC w sh n) (64 + mN w) tg k H1) (h4s : sh.1 = 1 ∨ sh.1 = 2) : jm_rep D cA ad B H0 (newC w sh n) s H1 := by
  obtain ⟨h1, h2, h3, h4, h5, h6⟩ := h
  have key : ∀ b, b ≠ 64 + mN w → mS (newC w sh n) b = mS w b ∧ mI (newC w sh n) b = mI w b ∧ mR (newC w sh n) b = mR w b ∧ mJ (newC w sh n) b = mJ w b := by
    intro b hb
    refine ⟨if_neg hb, if_neg hb, if_neg hb, if_neg hb⟩
  have key2 : mS (newC w sh n) (64 + mN w) = sh := if_pos rfl
  have hNN : mN (newC w sh n) = mN w + 1 := rfl
  have adr : ∀ b, 64 ≤ b → b < 64 + mN w → ad b < H.size := by
    intro b hb hb2
    have e1 := had (b - 64)
    rw [show 64 + (b - 64) = b by omega] at e1
    omega
  refine ⟨by rw [hz, h1, hNN]; omega, fun q hqB => (hq q (by omega)).trans (h2 q hqB), ?_, ?_, ?_, ?_⟩
  · intro b ci z hb
    by_cases hba : b = 64 + mN w
    · subst hba
      rw [key2] at hb
      exact ⟨by omega, by omega, ho ci z hb⟩
    · obtain ⟨k1, k2, k3, k4⟩ := key b hba
      rw [k1] at hb
      obtain ⟨g1, g2, q, g3, g4⟩ := h3 b ci z hb
      refine ⟨g1, by omega, q, g3, (g4.kept (hq _ (adr b g1 g2))).to (fun k _ => ?_)⟩
      unfold jm_fd
      rw [k2, k3, k4]
  · intro b tg m hb
    by_cases hba : b = 64 + mN w
    · subst hba
      rw [key2] at hb
      obtain ⟨q1, q2, q3⟩ := hr tg m hb
      exact ⟨by omega, by omega, q1, q2, q3⟩
    · obtain ⟨k1, k2, k3, k4⟩ := key b hba
      rw [k1] at hb
      obtain ⟨g1, g2, g3, g4, g5⟩ := h4 b tg m hb
      refine ⟨g1, by omega, g3, g4, ?_⟩
      unfold jm_arr
      rw [hq _ (adr b g1 g2)]
      rw [show (fun j => jem ad (jm_el (newC w sh n) b tg j)) = (fun j => jem ad (jm_el w b tg j)) from by
        funext j
        unfold jm_el
        rw [k2, k3, k4]]
      exact g5
  · intro b tg m hb
    by_cases hba : b = 64 + mN w
    · subst hba
      rw [key2] at hb
      rw [hb] at h4s
      simp at h4s
    · obtain ⟨k1, k2, k3, k4⟩ := key b hba
      rw [k1] at hb
      obtain ⟨g1, g2, g3, g4, scr, g5, g6, g7, g8, g9, g10⟩ := h5 b tg m hb
      refine ⟨g1, g2, g3, g4, scr, g5, g6, g7, g8, g9, fun j hj => ?_⟩
      rw [k2]
      exact g10 j hj
  · intro b k z hb
    by_cases hba : b = 64 + mN w
    · subst hba
      rw [key2] at hb
      rw [hb] at h4s
      simp at h4s
    · rw [(key b hba).1] at hb
      exact h6 b k z hb
end REP
/-- what is so at every place of a method of ours -/
def jm_X (D : va_G) (cA : Nat → ClassId) (ad adV : Nat → Nat) (B : Nat) (H0 : Heap) (p : Program) (R : Room) (s : State) (m : MethodId) (args : Array Value) (meth : Method) (c : Code) (i : Nat) : Prop :=
  p.tables.exec = Jvm.exec ∧ c.code = jm_b i ∧ c.maxLocals = jm_m i ∧ s.vm.findClass (jm_own (jm_o i)) = some m.cls ∧ (∀ w ∈ jm_all, w.before args s = true) ∧ meth.locks = false ∧ (jm_k i = 2 → meth.name = "<init>") ∧ meth.sig.returnType = jm_r i ∧ jm_f i ≤ R.frames ∧ jm_l i ≤ R.locals ∧ jm_KK D cA ad adV B H0 s ∧ ∀ j, ad (64 + j) = B + j
/-- the walk from a frame of the small machine -/
def jm_C (D : va_G) (cA : Nat → ClassId) (ad : Nat → Nat) (B : Nat) (H0 : Heap) (p : Program) (l : Launch) (e : Env) (R : Room) (s : State) (m : MethodId) (args : Array Value) (below : List Frame) (meth : Method) (c : Code) (Q : State → Prop) (i n0 k0 : Nat) (f : jmF) : Prop :=
  ∀ (ls : Array Slot) (H : Heap) (locs : List Loc) (cells slots : Nat), lv_has ls (jm_m i) (jeml ad f.2.1) → jm_rep D cA ad B H0 f.2.2.2 s H → (∀ q ∈ locs, B ≤ q.base) → mN f.2.2.2 = n0 + cells → mK f.2.2.2 = k0 + slots → W p l e R s m args below meth c H locs cells slots Q (F0 m f.1 ls (f.2.2.1.map (jem ad)))
