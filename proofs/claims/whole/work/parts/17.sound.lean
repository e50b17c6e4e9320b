/-! The small machine's runs are the machine's. -/
theorem jst_len {k : Nat} (hk : k < 43) : jsLen.getD k 0 = (jst k).length := by
  have h : ∀ k : Fin 43, jsLen.getD k.val 0 = (jst k.val).length := by decide +kernel
  exact h ⟨k, hk⟩
theorem jst_byt {k : Nat} (hk : k < 43) (j : Nat) : (jsByt.getD k []).getD j 0 = Int32.ofInt ((jst k).getD j 0 : Nat) := by
  have h : ∀ k : Fin 43, jsByt.getD k.val [] = (jst k.val).map Int32.ofNat := by decide +kernel
  rw [h ⟨k, hk⟩]
  show ((jst k).map Int32.ofNat).getD j 0 = _
  rw [List.getD_eq_getElem?_getD, List.getD_eq_getElem?_getD, List.getElem?_map]
  cases (jst k)[j]? with
  | none => rfl
  | some v => exact (Int32.ofInt_eq_ofNat).symm
section SND
variable {D : va_G} {cA : Nat → ClassId} {ad adV : Nat → Nat} {B : Nat} {H0 : Heap} {p : Program} {l : Launch} {e : Env} {R : Room} {s : State} {m : MethodId} {args : Array Value} {below : List Frame} {meth : Method} {c : Code} {Q : State → Prop} {i n0 k0 : Nat}
variable {pc : Nat} {lv : jmL} {st : List jmV} {w : jmW} {g : jmF}
theorem o_strlen {idx a1 b1 : Nat} {z : Int} (hq : jm_lk (jm_o i) idx = (11, a1, b1, z)) (X : jm_X D cA ad adV B H0 p R s m args meth c i) (hd : decode (jm_b i) pc = .ok (.invokevirtual idx, 3)) (h : jm_ins i (.invokevirtual idx) pc lv st w = some (.inl g)) (hgN : mN g.2.2.2 ≤ n0 + R.cells) (hgK : mK g.2.2.2 ≤ k0 + R.slots) (k : jm_C D cA ad B H0 p l e R s m args below meth c Q i n0 k0 g) : jm_C D cA ad B H0 p l e R s m args below meth c Q i n0 k0 (pc, lv, st, w) := by
  obtain ⟨hx, hb, hml, hown, hts, hlk, hini, hrt, hfr, hlo, hKK, had⟩ := X
  intro ls H locs cells slots hl hrep hlocs hn hk
  simp only [jm_ins, jgo, hq] at h
  split at h
  · rename_i h9
    cases h9
  · rename_i a t h9
    split at h
    · rename_i hS
      obtain ⟨h1, h2, h3, h4⟩ := hS
      have h := Sum.inl.inj (Option.some.inj h)
      subst h
      obtain ⟨hk43, ha⟩ := hrep.2.2.2.2.2 a (mS w a).2.1 (mS w a).2.2 (Prod.ext h1 rfl)
      have hSP : ∀ U : State, U.heap = H → s.WarmedH U.vm → jm_SP ad adV B U := fun U hU hW => jm_SP.of hW (fun q hq => by rw [hU]; exact hrep.2.1 q hq) hKK
      have hr := jm_rest ad h2
      have hrv : ∃ cell : Cell, H[ad a]? = some cell ∧ cell.vm.isStatics = false ∧ s.vm.findClass "java/lang/String" = some cell.cls := by
        obtain ⟨cell, g1, g2, g3, g4⟩ := (hKK.2.2.2.1.1 (mS w a).2.1 hk43).1
        refine ⟨cell, ?_, g2, g3⟩
        rw [ha, hrep.2.1 _ (Nat.lt_of_not_le g4)]
        exact g1
      simp only at hn hk hgN hgK
      refine jm_useI (va_runV (As := []) (rest := t.map (jem ad)) ⟨hx, hb, rfl, hown, hts⟩ (jm_len l ad adV B (mS w a).2.1 hk43) ⟨⟨rfl, rfl, by show 1 + 1 ≤ _; omega, by show 8 + (1 + 11) + 20 ≤ _; omega, jm_goodc jz_lenC hts, List.mem_cons_self, hts _ jz_lenC, hts _ jz_i0, ⟨by decide +kernel, by decide +kernel⟩, jm_nof (n := 0) (by decide +kernel), jm_mlink hts hq (Or.inr (Or.inl rfl))⟩, hts _ jz_lenI, hts _ jz_lenV⟩ ⟨fun a U g mk q => ⟨q.1, q.2.warm (Vm.Alike.refl U.vm) rfl⟩, hrv, fun U hU hW => ⟨by rw [← ha] <;> rfl, hSP U hU hW⟩⟩ rfl rfl (by show ls.size = _; rw [hml]; exact hl.1) rfl (lv_room hr) hd ⟨by omega, by omega⟩) (fun v hv => ?_)
      have kk := k ls H locs cells slots hl hrep hlocs hn hk
      subst hv
      rw [jst_len hk43, ← Int32.ofInt_eq_ofNat]
      exact kk
    · cases h
  · rename_i h9
    cases h9
  · cases h
theorem o_strchar {idx a1 b1 : Nat} {z : Int} (hq : jm_lk (jm_o i) idx = (12, a1, b1, z)) (X : jm_X D cA ad adV B H0 p R s m args meth c i) (hd : decode (jm_b i) pc = .ok (.invokevirtual idx, 3)) (h : jm_ins i (.invokevirtual idx) pc lv st w = some (.inl g)) (hgN : mN g.2.2.2 ≤ n0 + R.cells) (hgK : mK g.2.2.2 ≤ k0 + R.slots) (k : jm_C D cA ad B H0 p l e R s m args below meth c Q i n0 k0 g) : jm_C D cA ad B H0 p l e R s m args below meth c Q i n0 k0 (pc, lv, st, w) := by
  obtain ⟨hx, hb, hml, hown, hts, hlk, hini, hrt, hfr, hlo, hKK, had⟩ := X
  intro ls H locs cells slots hl hrep hlocs hn hk
  simp only [jm_ins, jgo, hq] at h
  split at h
  · rename_i h9
    cases h9
  · rename_i h9
    cases h9
  · rename_i j a t h9
    split at h
    · rename_i hS
      obtain ⟨h1, h2, h3, h4, h5⟩ := hS
      have h := Sum.inl.inj (Option.some.inj h)
      subst h
      obtain ⟨hk43, ha⟩ := hrep.2.2.2.2.2 a (mS w a).2.1 (mS w a).2.2 (Prod.ext h1 rfl)
      have hSP : ∀ U : State, U.heap = H → s.WarmedH U.vm → jm_SP ad adV B U := fun U hU hW => jm_SP.of hW (fun q hq => by rw [hU]; exact hrep.2.1 q hq) hKK
      have hr := jm_rest ad h2
      have hrv : ∃ cell : Cell, H[ad a]? = some cell ∧ cell.vm.isStatics = false ∧ s.vm.findClass "java/lang/String" = some cell.cls := by
        obtain ⟨cell, g1, g2, g3, g4⟩ := (hKK.2.2.2.1.1 (mS w a).2.1 hk43).1
        refine ⟨cell, ?_, g2, g3⟩
        rw [ha, hrep.2.1 _ (Nat.lt_of_not_le g4)]
        exact g1
      simp only at hn hk hgN hgK
      obtain ⟨hx1, hx2, hx3⟩ := jm_inx h5
      have hj3 : jix j < jsLen.getD (mS w a).2.1 0 := by rw [jst_len hk43]; exact hx3
      have ej : Int32.ofInt j = Int32.ofNat (jix j) := by
        have h9 := of_decide_eq_true h5
        rw [← Int32.ofInt_eq_ofNat, j32_eq]
        unfold jix
        rw [Int.toNat_of_nonneg h9.1, jw_jw]
      refine jm_useI (va_runV (As := [.int (Int32.ofNat (jix j))]) (rest := t.map (jem ad)) ⟨hx, hb, rfl, hown, hts⟩ (jm_cat l ad adV B (mS w a).2.1 hk43 (jix j) hj3) ⟨⟨rfl, rfl, by show 3 + 1 ≤ _; omega, by show 8 + (2 + 11) + 64 ≤ _; omega, jm_goodc jz_catC hts, List.mem_cons_self, hts _ jz_catC, hts _ jz_i0, ⟨by decide +kernel, by decide +kernel⟩, jm_nof (n := 1) (by decide +kernel), jm_mlink hts hq (Or.inr (Or.inr (Or.inl rfl)))⟩, hts _ jz_catI, hts _ jz_catV⟩ ⟨fun a U g mk q => ⟨q.1, q.2.warm (Vm.Alike.refl U.vm) rfl⟩, hrv, fun U hU hW => ⟨by rw [← ha] <;> rfl, hSP U hU hW⟩⟩ rfl rfl (by show ls.size = _; rw [hml]; exact hl.1) (by show _ :: _ = _; rw [← ej]; rfl) (lv_room hr) hd ⟨by omega, by omega⟩) (fun v hv => ?_)
      have kk := k ls H locs cells slots hl hrep hlocs hn hk
      subst hv
      rw [jst_byt hk43]
      exact kk
    · cases h
  · cases h
end SND
