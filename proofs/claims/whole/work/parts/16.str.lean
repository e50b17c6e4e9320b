/-! The texts: what length and charAt of a constant answer. -/
theorem jm_nof {y : MethodName} {n : Nat} (h : (parseMethodDescriptor y.desc).map (fun d => d.parameters.length) = some n) : ∀ sig, parseMethodDescriptor y.desc = some sig → n = sig.parameters.length := by
  intro sig hs
  rw [hs] at h
  exact (Option.some.inj h).symm
theorem jz_lenC : (.code yJ0_length_8abf5 cJ0_length_8abf5 1 (some .int) : Cond) ∈ jm_all := jm_at_in (p := (3, 8)) (by decide +kernel) (by decide +kernel)
theorem jz_lenI : (.instanceMethod yJ0_length_8abf5 : Cond) ∈ jm_all := jm_at_in (p := (3, 6)) (by decide +kernel) (by decide +kernel)
theorem jz_lenV : (.selects RJ0 yJ0_length_8abf5 yJ0_length_8abf5 : Cond) ∈ jm_all := jm_at_in (p := (3, 7)) (by decide +kernel) (by decide +kernel)
theorem jz_catC : (.code yJ0_charAt_5068e cJ0_charAt_5068e 2 (some .char) : Cond) ∈ jm_all := jm_at_in (p := (3, 18)) (by decide +kernel) (by decide +kernel)
theorem jz_catI : (.instanceMethod yJ0_charAt_5068e : Cond) ∈ jm_all := jm_at_in (p := (3, 16)) (by decide +kernel) (by decide +kernel)
theorem jz_catV : (.selects RJ0 yJ0_charAt_5068e yJ0_charAt_5068e : Cond) ∈ jm_all := jm_at_in (p := (3, 17)) (by decide +kernel) (by decide +kernel)
theorem jz_codC : (.code yJ0_coder_7d493 cJ0_coder_7d493 1 (some .byte) : Cond) ∈ jm_all := jm_at_in (p := (3, 12)) (by decide +kernel) (by decide +kernel)
theorem jz_codI : (.instanceMethod yJ0_coder_7d493 : Cond) ∈ jm_all := jm_at_in (p := (3, 10)) (by decide +kernel) (by decide +kernel)
theorem jz_codV : (.selects RJ0 yJ0_coder_7d493 yJ0_coder_7d493 : Cond) ∈ jm_all := jm_at_in (p := (3, 11)) (by decide +kernel) (by decide +kernel)
theorem jz_islC : (.code yJ0_isLatin1_aae02 cJ0_isLatin1_aae02 1 (some .boolean) : Cond) ∈ jm_all := jm_at_in (p := (3, 22)) (by decide +kernel) (by decide +kernel)
theorem jz_islI : (.instanceMethod yJ0_isLatin1_aae02 : Cond) ∈ jm_all := jm_at_in (p := (3, 20)) (by decide +kernel) (by decide +kernel)
theorem jz_islV : (.selects RJ0 yJ0_isLatin1_aae02 yJ0_isLatin1_aae02 : Cond) ∈ jm_all := jm_at_in (p := (3, 21)) (by decide +kernel) (by decide +kernel)
theorem jz_cixC : (.code yJ0_checkIndex_df160 cJ0_checkIndex_df160 2 none : Cond) ∈ jm_all := jm_at_in (p := (3, 28)) (by decide +kernel) (by decide +kernel)
theorem jz_cixS : (.static yJ0_checkIndex_df160 : Cond) ∈ jm_all := jm_at_in (p := (3, 27)) (by decide +kernel) (by decide +kernel)
theorem jz_latC : (.code yJ1_charAt_3b067 cJ1_charAt_3b067 2 (some .char) : Cond) ∈ jm_all := jm_at_in (p := (3, 25)) (by decide +kernel) (by decide +kernel)
theorem jz_latS : (.static yJ1_charAt_3b067 : Cond) ∈ jm_all := jm_at_in (p := (3, 24)) (by decide +kernel) (by decide +kernel)
theorem jz_preC : (.code yJ3_checkIndex_8e157 cJ3_checkIndex_8e157 3 (some .int) : Cond) ∈ jm_all := jm_at_in (p := (3, 33)) (by decide +kernel) (by decide +kernel)
theorem jz_preS : (.static yJ3_checkIndex_8e157 : Cond) ∈ jm_all := jm_at_in (p := (3, 32)) (by decide +kernel) (by decide +kernel)
theorem jz_i0 : (.initialized RJ0 : Cond) ∈ jm_all := jm_at_in (p := (1, 11)) (by decide +kernel) (by decide +kernel)
theorem jz_i1 : (.initialized RJ1 : Cond) ∈ jm_all := jm_at_in (p := (1, 12)) (by decide +kernel) (by decide +kernel)
theorem jz_i3 : (.initialized RJ3 : Cond) ∈ jm_all := jm_at_in (p := (1, 13)) (by decide +kernel) (by decide +kernel)
theorem jz_lcod : (.methodLink RJ0 335 yJ0_coder_7d493 : Cond) ∈ jm_all := jm_at_in (p := (3, 9)) (by decide +kernel) (by decide +kernel)
theorem jz_lisl : (.methodLink RJ0 492 yJ0_isLatin1_aae02 : Cond) ∈ jm_all := jm_at_in (p := (3, 19)) (by decide +kernel) (by decide +kernel)
theorem jz_llat : (.methodLink RJ0 495 yJ1_charAt_3b067 : Cond) ∈ jm_all := jm_at_in (p := (3, 23)) (by decide +kernel) (by decide +kernel)
theorem jz_lcix : (.methodLink RJ1 9 yJ0_checkIndex_df160 : Cond) ∈ jm_all := jm_at_in (p := (3, 26)) (by decide +kernel) (by decide +kernel)
theorem jz_lpre : (.methodLink RJ0 1059 yJ3_checkIndex_8e157 : Cond) ∈ jm_all := jm_at_in (p := (3, 31)) (by decide +kernel) (by decide +kernel)
theorem jz_fcs : (.fieldLink RJ0 38 RJ0 "COMPACT_STRINGS" "Z" : Cond) ∈ jm_all := jm_at_in (p := (3, 13)) (by decide +kernel) (by decide +kernel)
theorem jz_fsf : (.fieldLink RJ0 1053 RJ3 "SIOOBE_FORMATTER" "Ljava/util/function/BiFunction;" : Cond) ∈ jm_all := jm_at_in (p := (3, 29)) (by decide +kernel) (by decide +kernel)
theorem jz_fva : (.fieldLink RJ0 9 RJ0 "value" "[B" : Cond) ∈ jm_all := jm_at_in (p := (9, 188)) (by decide +kernel) (by decide +kernel)
theorem jz_fco : (.fieldLink RJ0 15 RJ0 "coder" "B" : Cond) ∈ jm_all := jm_at_in (p := (9, 189)) (by decide +kernel) (by decide +kernel)
abbrev jsLen : List Nat := jmTx.map String.length
abbrev jsByt : List (List Int32) := jmTx.map (fun t => t.toList.map (fun c => Int32.ofNat c.toNat))
theorem jm_lens {k : Nat} (hk : k < 43) : jsLen.getD k 0 < 200 := by
  have h : ∀ k : Fin 43, jsLen.getD k.val 0 < 200 := by decide +kernel
  exact h ⟨k, hk⟩
theorem jm_byts {k : Nat} (hk : k < 43) (j : Nat) : ∃ n : Nat, n < 128 ∧ (jsByt.getD k []).getD j 0 = Int32.ofNat n := by
  have h : ∀ k : Fin 43, ((jsByt.getD k.val []).all (fun b => decide (0 ≤ b ∧ b < 128))) = true := by decide +kernel
  have h1 := List.all_eq_true.mp (h ⟨k, hk⟩)
  by_cases hj : j < (jsByt.getD k []).length
  · have h2 := of_decide_eq_true (h1 _ (List.getElem_mem hj))
    have e : (jsByt.getD k []).getD j 0 = (jsByt.getD k [])[j] := by
      rw [List.getD_eq_getElem?_getD, List.getElem?_eq_getElem hj]
      rfl
    have a := Int32.le_iff_toInt_le.mp h2.1
    have b := Int32.lt_iff_toInt_lt.mp h2.2
    have z0 : (0 : Int32).toInt = 0 := by decide
    have z1 : (128 : Int32).toInt = 128 := by decide
    rw [z0] at a
    rw [z1] at b
    refine ⟨((jsByt.getD k [])[j]).toInt.toNat, by omega, ?_⟩
    rw [e, ← Int32.toInt_inj]
    show _ = (Int32.ofNat _).toInt
    rw [show Int32.ofNat ((jsByt.getD k [])[j]).toInt.toNat = nI ((jsByt.getD k [])[j]).toInt.toNat from rfl, nI_toInt (by omega)]
    omega
  · refine ⟨0, by omega, ?_⟩
    rw [List.getD_eq_getElem?_getD, List.getElem?_eq_none (by omega)]
    rfl
theorem jm_byt {k : Nat} (hk : k < 43) (j : Nat) : ((((jsByt.getD k []).getD j 0) &&& 255).toUInt32 % 65536).toInt32 = (jsByt.getD k []).getD j 0 := by
  obtain ⟨n, hn, e⟩ := jm_byts hk j
  rw [e]
  have h : ∀ n : Fin 128, ((Int32.ofNat n.val &&& 255).toUInt32 % 65536).toInt32 = Int32.ofNat n.val := by decide +kernel
  exact h ⟨n, hn⟩
theorem jm_bytc {k : Nat} (hk : k < 43) (j : Nat) : narrow .char (.int ((jsByt.getD k []).getD j 0)) = .int ((jsByt.getD k []).getD j 0) := by
  obtain ⟨n, hn, e⟩ := jm_byts hk j
  rw [e]
  have h : ∀ n : Fin 128, narrow .char (.int (Int32.ofNat n.val)) = .int (Int32.ofNat n.val) := by decide +kernel
  exact h ⟨n, hn⟩
theorem nI_0le {n : Nat} (h : n < 2147483648) : ¬ Int32.ofNat n < 0 := by
  intro q
  have := Int32.lt_iff_toInt_lt.mp q
  have z0 : (0 : Int32).toInt = 0 := by decide
  rw [z0, show Int32.ofNat n = nI n from rfl, nI_toInt h] at this
  omega
theorem nI_ltx {a b : Nat} (h : a < b) (hb : b < 2147483648) : Int32.ofNat a < Int32.ofNat b := by
  rw [Int32.lt_iff_toInt_lt, show Int32.ofNat a = nI a from rfl, show Int32.ofNat b = nI b from rfl, nI_toInt (by omega), nI_toInt hb]
  omega
theorem jm_nIc {n : Nat} (h : n < 2147483648) : (Int32.ofNat n).toNatClampNeg = n := by
  show ((Int32.ofNat n).toInt).toNat = n
  rw [show Int32.ofNat n = nI n from rfl, nI_toInt h]
  omega
def jm_SP (ad adV : Nat → Nat) (B : Nat) (U : State) : Prop := vk_S 43 jsLen jsByt (fun k => ad (2 + k)) adV (fun q => B ≤ q) U U.heap ∧ va_Z "java/lang/String" "COMPACT_STRINGS" "Z" (.int 1) (fun q => B ≤ q) U U.heap ∧ va_Zq "jdk/internal/util/Preconditions" "SIOOBE_FORMATTER" "Ljava/util/function/BiFunction;" (fun q => B ≤ q) U U.heap
theorem jm_SP.warm {ad adV : Nat → Nat} {B : Nat} {u U : State} (hvm : u.vm.Alike U.vm) (hh : U.heap = u.heap) (h : jm_SP ad adV B u) : jm_SP ad adV B U := by
  unfold jm_SP
  rw [hh]
  exact ⟨vk_S.moved hvm h.1, va_Z.moved hvm h.2.1, va_Zq.moved hvm h.2.2⟩
theorem jm_SP.of {D : va_G} {cA : Nat → ClassId} {ad adV : Nat → Nat} {B : Nat} {H0 : Heap} {s U : State} (hW : s.WarmedH U.vm) (hU : ∀ q, q < B → U.heap[q]? = H0[q]?) (h : jm_KK D cA ad adV B H0 s) : jm_SP ad adV B U := by
  obtain ⟨-, -, -, h4, -, h6, h7⟩ := h
  have hk : ∀ a : Nat, a < H0.size → ¬ (fun q => B ≤ q) a → U.heap[a]? = H0[a]? := fun a h1 h2 => hU a (Nat.lt_of_not_le h2)
  exact ⟨vk_S.kept (vk_S.moved hW.alike h4) hk, va_Z.kept (va_Z.moved hW.alike h6) hk, va_Zq.kept (va_Zq.moved hW.alike h7) hk⟩
def jm_no : Addr → Prop := fun _ => False
section STR
variable {ad adV : Nat → Nat} {B : Nat} {p : Program} {l : Launch} {e : Env} {R : Room} {s : State} {m : MethodId} {args : Array Value} {below : List Frame} {meth : Method} {c : Code} {H : Heap} {locs : List Loc} {cells slots : Nat} {Q : State → Prop} {pc : Nat} {ls : Array Slot} {st0 rest : List Value} {a : Array Value}
theorem jm_useI {post : Int32 → Prop} (hr : va_Run p l e R s m args below meth c H locs cells slots 0 0 (F0 m pc ls st0) rest (vp_Si post a) jm_no) (kk : ∀ v, post v → W p l e R s m args below meth c H locs cells slots Q (F0 m (pc + 3) ls (.int v :: rest))) : W p l e R s m args below meth c H locs cells slots Q (F0 m pc ls st0) := by
  intro T hT X
  obtain ⟨v, st₀, t, T', L, h0, X', hL, e1, e2, ⟨r, hv, hp, hh⟩, st⟩ := hr T hT X
  have hLn : L = [] := by
    cases L with
    | nil => rfl
    | cons q L => exact (hL q List.mem_cons_self).elim
  subst hLn
  cases hv
  rw [List.append_nil] at X'
  obtain ⟨t2, a1, b1⟩ := kk r hp T' (by rw [e1, hh, h0]) X'
  exact ⟨t2, st t2 a1, b1⟩
theorem jm_useV (hr : va_Run p l e R s m args below meth c H locs cells slots 0 0 (F0 m pc ls st0) rest (va_Sv (fun _ => True) a) jm_no) (kk : W p l e R s m args below meth c H locs cells slots Q (F0 m (pc + 3) ls rest)) : W p l e R s m args below meth c H locs cells slots Q (F0 m pc ls st0) := by
  intro T hT X
  obtain ⟨v, st₀, t, T', L, h0, X', hL, e1, e2, ⟨hv, hp, hh⟩, st⟩ := hr T hT X
  have hLn : L = [] := by
    cases L with
    | nil => rfl
    | cons q L => exact (hL q List.mem_cons_self).elim
  subst hLn
  cases hv
  rw [List.append_nil] at X'
  obtain ⟨t2, a1, b1⟩ := kk T' (by rw [e1, hh, h0]) X'
  exact ⟨t2, st t2 a1, b1⟩
end STR
theorem jm_good {s : State} {args : Array Value} (hts : ∀ w ∈ jm_all, w.before args s = true) : ∀ w ∈ jm_all, ∀ (a' : Array Value) (U : State), s.WarmedH U.vm → w.before a' U = true := fun w hw a' U hW => jm_warm (List.mem_filter.mp hw).2 hW (hts w hw)
theorem jm_goodc {s : State} {args : Array Value} {w0 : Cond} (h0 : w0 ∈ jm_all) (hts : ∀ w ∈ jm_all, w.before args s = true) : ∀ w ∈ w0 :: jm_all, ∀ (a' : Array Value) (U : State), s.WarmedH U.vm → w.before a' U = true := fun w hw a' U hW => (List.mem_cons.mp hw).elim (fun z => by rw [z]; exact jm_good hts _ h0 a' U hW) (fun z => jm_good hts w z a' U hW)
theorem jm_tsof {s : State} {args : Array Value} {w0 : Cond} (h : ∀ w ∈ w0 :: jm_all, w.before args s = true) : ∀ w ∈ jm_all, w.before args s = true := fun w hw => h w (List.mem_cons_of_mem _ hw)
set_option maxHeartbeats 1000000 in
theorem jm_pre (l : Launch) (ad adV : Nat → Nat) (B : Nat) (i n : Int32) (f : Option Nat) (h0 : ¬ i < 0) (h1 : i < n) : Met l yJ3_checkIndex_8e157 (.code yJ3_checkIndex_8e157 cJ3_checkIndex_8e157 3 (some .int) :: jm_all) ({ frames := 0, cells := 0, slots := 0, locals := 0 }) (va_Pc [.int i, .int n, va_rf f] (fun _ => True)) (vp_Si (fun _ => True)) 0 0 jm_no := by
  refine va_MetF (cc := cJ3_checkIndex_8e157) (maxL := 3) (ret := some .int) (by decide +kernel) rfl ?_
  intro p e s m args below meth c s₁ X0 hml hv
  have hx := X0.exec
  have hb := X0.bytes
  have hr := X0.returns
  have hts := jm_tsof (atoms_spec X0.pre)
  have hown : s.vm.findClass RJ3 = some m.cls := findClass_of_methodNamed X0.named
  have hlocks := X0.notSynchronized
  obtain ⟨rfl, hv⟩ := hv
  have hS : va_S (fun q : Nat => B ≤ q) s.heap s.heap [] := va_S.rf
  have hl := lv_entry ([.int i, .int n, va_rf f]) (n := 3) (by cases f <;> exact Nat.le_of_ble_eq_true rfl)
  rw [lg_entry_eq]
  generalize (lg_sl ([.int i, .int n, va_rf f]) ++ List.replicate (3 - (lg_sl ([.int i, .int n, va_rf f])).length) Slot.unset).toArray = ls at hl ⊢
  have hl : lv_has ls 3 [(0, .int i), (1, .int n), (2, va_rf f)] := by cases f <;> exact hl
  refine lv_iload_n hx hb dJ3_checkIndex_8e157_0 rfl (lv_at hl 0 rfl) ?_
  refine lv_if_lt (tgt := 9) hx hb dJ3_checkIndex_8e157_1 (by decide) (fun z => absurd z h0) (fun _ => ?_)
  refine lv_iload_n hx hb dJ3_checkIndex_8e157_4 rfl (lv_at hl 0 rfl) ?_
  refine lv_iload_n hx hb dJ3_checkIndex_8e157_5 rfl (lv_at hl 1 rfl) ?_
  refine lv_icmp_lt (tgt := 16) hx hb dJ3_checkIndex_8e157_6 (by decide) (fun _ => ?_) (fun z => absurd h1 z)
  refine lv_iload_n hx hb dJ3_checkIndex_8e157_16 rfl (lv_at hl 0 rfl) ?_
  exact W.iret hx hb hr (fun t ht hW => ⟨_, rfl, trivial, ht⟩) (fun q hq => by cases hq) dJ3_checkIndex_8e157_17 hlocks
set_option maxHeartbeats 1000000 in
theorem jm_cix (l : Launch) (ad adV : Nat → Nat) (B : Nat) (i n : Int32) (h0 : ¬ i < 0) (h1 : i < n) : Met l yJ0_checkIndex_df160 (.code yJ0_checkIndex_df160 cJ0_checkIndex_df160 2 none :: jm_all) ({ frames := 1, cells := 0, slots := 0, locals := 22 }) (va_Pc [.int i, .int n] (jm_SP ad adV B)) (va_Sv (fun _ => True)) 0 0 jm_no := by
  refine va_MetF (cc := cJ0_checkIndex_df160) (maxL := 2) (ret := none) (by decide +kernel) rfl ?_
  intro p e s m args below meth c s₁ X0 hml hv
  have hx := X0.exec
  have hb := X0.bytes
  have hr := X0.returns
  have hts := jm_tsof (atoms_spec X0.pre)
  have hown : s.vm.findClass RJ0 = some m.cls := findClass_of_methodNamed X0.named
  have hlocks := X0.notSynchronized
  obtain ⟨rfl, hv⟩ := hv
  have hS : va_S (fun q : Nat => B ≤ q) s.heap s.heap [] := va_S.rf
  have hl := lv_entry ([.int i, .int n]) (n := 2) (Nat.le_of_ble_eq_true rfl)
  rw [lg_entry_eq]
  generalize (lg_sl ([.int i, .int n]) ++ List.replicate (2 - (lg_sl ([.int i, .int n])).length) Slot.unset).toArray = ls at hl ⊢
  have hl : lv_has ls 2 [(0, .int i), (1, .int n)] := hl
  refine lv_iload_n hx hb dJ0_checkIndex_df160_0 rfl (lv_at hl 0 rfl) ?_
  refine lv_iload_n hx hb dJ0_checkIndex_df160_1 rfl (lv_at hl 1 rfl) ?_
  rcases hv.2.2 with hz | ⟨t, hz⟩
  · refine va_gets hx hb hz hS hown (hts _ jz_fsf) (fun _ h => h) dJ0_checkIndex_df160_2 ?_
    exact jm_useI (va_runS (As := [.int i, .int n, va_rf (none)]) (rest := []) ⟨hx, hb, hml, hown, hts⟩ (jm_pre l ad adV B i n (none) h0 h1) ⟨⟨rfl, rfl, Nat.le_of_ble_eq_true rfl, Nat.le_of_ble_eq_true rfl, jm_goodc jz_preC hts, List.mem_cons_self, hts _ jz_preC, hts _ jz_i3, ⟨by decide +kernel, by decide +kernel⟩, jm_nof (n := 3) (by decide +kernel), hts _ jz_lpre⟩, hts _ jz_preS⟩ ⟨fun a U g mk q => q, fun U hU hW => ⟨rfl, trivial⟩⟩ rfl rfl hl.1 rfl (lv_room (Nat.le_of_ble_eq_true rfl)) dJ0_checkIndex_df160_5 ⟨Nat.le_of_ble_eq_true rfl, Nat.le_of_ble_eq_true rfl⟩) (fun v _ => lv_pop hx hb dJ0_checkIndex_df160_8 rfl (W.vret hx hb hr (fun t ht hW => ⟨rfl, trivial, ht⟩) (fun q hq => by cases hq) dJ0_checkIndex_df160_9 hlocks))
  · refine va_gets hx hb hz hS hown (hts _ jz_fsf) (fun _ h => h) dJ0_checkIndex_df160_2 ?_
    exact jm_useI (va_runS (As := [.int i, .int n, va_rf (some t)]) (rest := []) ⟨hx, hb, hml, hown, hts⟩ (jm_pre l ad adV B i n (some t) h0 h1) ⟨⟨rfl, rfl, Nat.le_of_ble_eq_true rfl, Nat.le_of_ble_eq_true rfl, jm_goodc jz_preC hts, List.mem_cons_self, hts _ jz_preC, hts _ jz_i3, ⟨by decide +kernel, by decide +kernel⟩, jm_nof (n := 3) (by decide +kernel), hts _ jz_lpre⟩, hts _ jz_preS⟩ ⟨fun a U g mk q => q, fun U hU hW => ⟨rfl, trivial⟩⟩ rfl rfl hl.1 rfl (lv_room (Nat.le_of_ble_eq_true rfl)) dJ0_checkIndex_df160_5 ⟨Nat.le_of_ble_eq_true rfl, Nat.le_of_ble_eq_true rfl⟩) (fun v _ => lv_pop hx hb dJ0_checkIndex_df160_8 rfl (W.vret hx hb hr (fun t ht hW => ⟨rfl, trivial, ht⟩) (fun q hq => by cases hq) dJ0_checkIndex_df160_9 hlocks))
set_option maxHeartbeats 1000000 in
theorem jm_cod (l : Launch) (ad adV : Nat → Nat) (B : Nat) (k : Nat) (hk : k < 43) : Met l yJ0_coder_7d493 (.code yJ0_coder_7d493 cJ0_coder_7d493 1 (some .byte) :: jm_all) ({ frames := 0, cells := 0, slots := 0, locals := 0 }) (va_Pc [.ref (ad (2 + k))] (jm_SP ad adV B)) (vp_Si (fun r => r = 0)) 0 0 jm_no := by
  refine va_MetF (cc := cJ0_coder_7d493) (maxL := 1) (ret := some .byte) (by decide +kernel) rfl ?_
  intro p e s m args below meth c s₁ X0 hml hv
  have hx := X0.exec
  have hb := X0.bytes
  have hr := X0.returns
  have hts := jm_tsof (atoms_spec X0.pre)
  have hown : s.vm.findClass RJ0 = some m.cls := findClass_of_methodNamed X0.named
  have hlocks := X0.notSynchronized
  obtain ⟨rfl, hv⟩ := hv
  have hS : va_S (fun q : Nat => B ≤ q) s.heap s.heap [] := va_S.rf
  have hl := lv_entry ([.ref (ad (2 + k))]) (n := 1) (Nat.le_of_ble_eq_true rfl)
  rw [lg_entry_eq]
  generalize (lg_sl ([.ref (ad (2 + k))]) ++ List.replicate (1 - (lg_sl ([.ref (ad (2 + k))])).length) Slot.unset).toArray = ls at hl ⊢
  have hl : lv_has ls 1 [(0, .ref (ad (2 + k)))] := hl
  refine va_gets hx hb hv.2.1 hS hown (hts _ jz_fcs) (fun _ h => h) dJ0_coder_7d493_0 ?_
  refine lv_if_eq (tgt := 13) hx hb dJ0_coder_7d493_3 (by decide) (fun z => absurd z (by decide)) (fun _ => ?_)
  refine lv_aload_n hx hb dJ0_coder_7d493_6 rfl (lv_at hl 0 rfl) ?_
  refine vk_getf hx hb (hv.1.1 k hk).2.1 hS hown (hts _ jz_fco) (fun _ h => h) dJ0_coder_7d493_7 ?_
  refine lv_goto (tgt := 14) hx hb dJ0_coder_7d493_10 (by decide) ?_
  exact W.zret hx hb hr rfl (fun t ht hW => ⟨_, rfl, rfl, ht⟩) (fun q hq => by cases hq) dJ0_coder_7d493_14 hlocks
set_option maxHeartbeats 1000000 in
theorem jm_isl (l : Launch) (ad adV : Nat → Nat) (B : Nat) (k : Nat) (hk : k < 43) : Met l yJ0_isLatin1_aae02 (.code yJ0_isLatin1_aae02 cJ0_isLatin1_aae02 1 (some .boolean) :: jm_all) ({ frames := 0, cells := 0, slots := 0, locals := 0 }) (va_Pc [.ref (ad (2 + k))] (jm_SP ad adV B)) (vp_Si (fun r => r = 1)) 0 0 jm_no := by
  refine va_MetF (cc := cJ0_isLatin1_aae02) (maxL := 1) (ret := some .boolean) (by decide +kernel) rfl ?_
  intro p e s m args below meth c s₁ X0 hml hv
  have hx := X0.exec
  have hb := X0.bytes
  have hr := X0.returns
  have hts := jm_tsof (atoms_spec X0.pre)
  have hown : s.vm.findClass RJ0 = some m.cls := findClass_of_methodNamed X0.named
  have hlocks := X0.notSynchronized
  obtain ⟨rfl, hv⟩ := hv
  have hS : va_S (fun q : Nat => B ≤ q) s.heap s.heap [] := va_S.rf
  have hl := lv_entry ([.ref (ad (2 + k))]) (n := 1) (Nat.le_of_ble_eq_true rfl)
  rw [lg_entry_eq]
  generalize (lg_sl ([.ref (ad (2 + k))]) ++ List.replicate (1 - (lg_sl ([.ref (ad (2 + k))])).length) Slot.unset).toArray = ls at hl ⊢
  have hl : lv_has ls 1 [(0, .ref (ad (2 + k)))] := hl
  refine va_gets hx hb hv.2.1 hS hown (hts _ jz_fcs) (fun _ h => h) dJ0_isLatin1_aae02_0 ?_
  refine lv_if_eq (tgt := 17) hx hb dJ0_isLatin1_aae02_3 (by decide) (fun z => absurd z (by decide)) (fun _ => ?_)
  refine lv_aload_n hx hb dJ0_isLatin1_aae02_6 rfl (lv_at hl 0 rfl) ?_
  refine vk_getf hx hb (hv.1.1 k hk).2.1 hS hown (hts _ jz_fco) (fun _ h => h) dJ0_isLatin1_aae02_7 ?_
  refine lv_if_ne (tgt := 17) hx hb dJ0_isLatin1_aae02_10 (by decide) (fun z => absurd rfl z) (fun _ => ?_)
  refine lv_iconst hx hb dJ0_isLatin1_aae02_13 rfl ?_
  refine lv_goto (tgt := 18) hx hb dJ0_isLatin1_aae02_14 (by decide) ?_
  exact W.zret hx hb hr rfl (fun t ht hW => ⟨_, rfl, rfl, ht⟩) (fun q hq => by cases hq) dJ0_isLatin1_aae02_18 hlocks
set_option maxHeartbeats 1000000 in
theorem jm_len (l : Launch) (ad adV : Nat → Nat) (B : Nat) (k : Nat) (hk : k < 43) : Met l yJ0_length_8abf5 (.code yJ0_length_8abf5 cJ0_length_8abf5 1 (some .int) :: jm_all) ({ frames := 1, cells := 0, slots := 0, locals := 20 }) (va_Pc [.ref (ad (2 + k))] (jm_SP ad adV B)) (vp_Si (fun r => r = Int32.ofNat (jsLen.getD k 0))) 0 0 jm_no := by
  refine va_MetF (cc := cJ0_length_8abf5) (maxL := 1) (ret := some .int) (by decide +kernel) rfl ?_
  intro p e s m args below meth c s₁ X0 hml hv
  have hx := X0.exec
  have hb := X0.bytes
  have hr := X0.returns
  have hts := jm_tsof (atoms_spec X0.pre)
  have hown : s.vm.findClass RJ0 = some m.cls := findClass_of_methodNamed X0.named
  have hlocks := X0.notSynchronized
  obtain ⟨rfl, hv⟩ := hv
  have hS : va_S (fun q : Nat => B ≤ q) s.heap s.heap [] := va_S.rf
  have hl := lv_entry ([.ref (ad (2 + k))]) (n := 1) (Nat.le_of_ble_eq_true rfl)
  rw [lg_entry_eq]
  generalize (lg_sl ([.ref (ad (2 + k))]) ++ List.replicate (1 - (lg_sl ([.ref (ad (2 + k))])).length) Slot.unset).toArray = ls at hl ⊢
  have hl : lv_has ls 1 [(0, .ref (ad (2 + k)))] := hl
  refine lv_aload_n hx hb dJ0_length_8abf5_0 rfl (lv_at hl 0 rfl) ?_
  refine vk_getf hx hb (hv.1.1 k hk).2.2.1 hS hown (hts _ jz_fva) (fun _ h => h) dJ0_length_8abf5_1 ?_
  refine va_tlen hx hb (hv.1.1 k hk).2.2.2 hS rfl dJ0_length_8abf5_4 ?_
  refine lv_aload_n hx hb dJ0_length_8abf5_5 rfl (lv_at hl 0 rfl) ?_
  refine jm_useI (va_runV (As := []) (rest := [.int (Int32.ofNat (jsLen.getD k 0))]) ⟨hx, hb, hml, hown, hts⟩ (jm_cod l ad adV B k hk) ⟨⟨rfl, rfl, Nat.le_of_ble_eq_true rfl, Nat.le_of_ble_eq_true rfl, jm_goodc jz_codC hts, List.mem_cons_self, hts _ jz_codC, hts _ jz_i0, ⟨by decide +kernel, by decide +kernel⟩, jm_nof (n := 0) (by decide +kernel), hts _ jz_lcod⟩, hts _ jz_codI, hts _ jz_codV⟩ ⟨fun a U g mk q => ⟨q.1, q.2.warm (Vm.Alike.refl U.vm) rfl⟩, vk_recv hv.1 hk hS, fun U hU hW => ⟨rfl, hv.warm hW.alike hU⟩⟩ rfl rfl hl.1 rfl (lv_room (Nat.le_of_ble_eq_true rfl)) dJ0_length_8abf5_6 ⟨Nat.le_of_ble_eq_true rfl, Nat.le_of_ble_eq_true rfl⟩) (fun v hv2 => ?_)
  subst hv2
  refine lv_ishr hx hb dJ0_length_8abf5_9 ?_
  refine W.iret hx hb hr (fun t ht hW => ⟨_, rfl, ?_, ht⟩) (fun q hq => by cases hq) dJ0_length_8abf5_10 hlocks
  exact Int32.shiftRight_zero
set_option maxHeartbeats 1000000 in
theorem jm_lat (l : Launch) (ad adV : Nat → Nat) (B : Nat) (k : Nat) (hk : k < 43) (j : Nat) (hj : j < jsLen.getD k 0) : Met l yJ1_charAt_3b067 (.code yJ1_charAt_3b067 cJ1_charAt_3b067 2 (some .char) :: jm_all) ({ frames := 2, cells := 0, slots := 0, locals := 43 }) (va_Pc [.ref (adV k), .int (Int32.ofNat j)] (jm_SP ad adV B)) (vp_Si (fun r => r = (jsByt.getD k []).getD j 0)) 0 0 jm_no := by
  refine va_MetF (cc := cJ1_charAt_3b067) (maxL := 2) (ret := some .char) (by decide +kernel) rfl ?_
  intro p e s m args below meth c s₁ X0 hml hv
  have hx := X0.exec
  have hb := X0.bytes
  have hr := X0.returns
  have hts := jm_tsof (atoms_spec X0.pre)
  have hown : s.vm.findClass RJ1 = some m.cls := findClass_of_methodNamed X0.named
  have hlocks := X0.notSynchronized
  obtain ⟨rfl, hv⟩ := hv
  have hS : va_S (fun q : Nat => B ≤ q) s.heap s.heap [] := va_S.rf
  have hl := lv_entry ([.ref (adV k), .int (Int32.ofNat j)]) (n := 2) (Nat.le_of_ble_eq_true rfl)
  rw [lg_entry_eq]
  generalize (lg_sl ([.ref (adV k), .int (Int32.ofNat j)]) ++ List.replicate (2 - (lg_sl ([.ref (adV k), .int (Int32.ofNat j)])).length) Slot.unset).toArray = ls at hl ⊢
  have hl : lv_has ls 2 [(0, .ref (adV k)), (1, .int (Int32.ofNat j))] := hl
  have hlen := jm_lens hk
  refine lv_iload_n hx hb dJ1_charAt_3b067_0 rfl (lv_at hl 1 rfl) ?_
  refine lv_aload_n hx hb dJ1_charAt_3b067_1 rfl (lv_at hl 0 rfl) ?_
  refine va_tlen hx hb (hv.1.1 k hk).2.2.2 hS rfl dJ1_charAt_3b067_2 ?_
  refine jm_useV (va_runS (As := [.int (Int32.ofNat j), .int (Int32.ofNat (jsLen.getD k 0))]) (rest := []) ⟨hx, hb, hml, hown, hts⟩ (jm_cix l ad adV B (Int32.ofNat j) (Int32.ofNat (jsLen.getD k 0)) (nI_0le (by omega)) (nI_ltx hj (by omega))) ⟨⟨rfl, rfl, Nat.le_of_ble_eq_true rfl, Nat.le_of_ble_eq_true rfl, jm_goodc jz_cixC hts, List.mem_cons_self, hts _ jz_cixC, hts _ jz_i0, ⟨by decide +kernel, by decide +kernel⟩, jm_nof (n := 2) (by decide +kernel), hts _ jz_lcix⟩, hts _ jz_cixS⟩ ⟨fun a U g mk q => ⟨q.1, q.2.warm (Vm.Alike.refl U.vm) rfl⟩, fun U hU hW => ⟨rfl, hv.warm hW.alike hU⟩⟩ rfl rfl hl.1 rfl (lv_room (Nat.le_of_ble_eq_true rfl)) dJ1_charAt_3b067_3 ⟨Nat.le_of_ble_eq_true rfl, Nat.le_of_ble_eq_true rfl⟩) ?_
  refine lv_aload_n hx hb dJ1_charAt_3b067_6 rfl (lv_at hl 0 rfl) ?_
  refine lv_iload_n hx hb dJ1_charAt_3b067_7 rfl (lv_at hl 1 rfl) ?_
  refine va_tb hx hb (hv.1.1 k hk).2.2.2 hS (vp_in_nI hj (by omega)) (v := .int ((jsByt.getD k []).getD j 0)) (by rw [jm_nIc (by omega)]) dJ1_charAt_3b067_8 ?_
  refine lv_sipush hx hb dJ1_charAt_3b067_9 (v := 255) (by decide +kernel) ?_
  refine lv_iand hx hb dJ1_charAt_3b067_12 ?_
  refine lv_i2c hx hb dJ1_charAt_3b067_13 (v := (jsByt.getD k []).getD j 0) (jm_byt hk j) ?_
  exact W.zret hx hb hr (jm_bytc hk j) (fun t ht hW => ⟨_, rfl, rfl, ht⟩) (fun q hq => by cases hq) dJ1_charAt_3b067_14 hlocks
set_option maxHeartbeats 1000000 in
theorem jm_cat (l : Launch) (ad adV : Nat → Nat) (B : Nat) (k : Nat) (hk : k < 43) (j : Nat) (hj : j < jsLen.getD k 0) : Met l yJ0_charAt_5068e (.code yJ0_charAt_5068e cJ0_charAt_5068e 2 (some .char) :: jm_all) ({ frames := 3, cells := 0, slots := 0, locals := 64 }) (va_Pc [.ref (ad (2 + k)), .int (Int32.ofNat j)] (jm_SP ad adV B)) (vp_Si (fun r => r = (jsByt.getD k []).getD j 0)) 0 0 jm_no := by
  refine va_MetF (cc := cJ0_charAt_5068e) (maxL := 2) (ret := some .char) (by decide +kernel) rfl ?_
  intro p e s m args below meth c s₁ X0 hml hv
  have hx := X0.exec
  have hb := X0.bytes
  have hr := X0.returns
  have hts := jm_tsof (atoms_spec X0.pre)
  have hown : s.vm.findClass RJ0 = some m.cls := findClass_of_methodNamed X0.named
  have hlocks := X0.notSynchronized
  obtain ⟨rfl, hv⟩ := hv
  have hS : va_S (fun q : Nat => B ≤ q) s.heap s.heap [] := va_S.rf
  have hl := lv_entry ([.ref (ad (2 + k)), .int (Int32.ofNat j)]) (n := 2) (Nat.le_of_ble_eq_true rfl)
  rw [lg_entry_eq]
  generalize (lg_sl ([.ref (ad (2 + k)), .int (Int32.ofNat j)]) ++ List.replicate (2 - (lg_sl ([.ref (ad (2 + k)), .int (Int32.ofNat j)])).length) Slot.unset).toArray = ls at hl ⊢
  have hl : lv_has ls 2 [(0, .ref (ad (2 + k))), (1, .int (Int32.ofNat j))] := hl
  refine lv_aload_n hx hb dJ0_charAt_5068e_0 rfl (lv_at hl 0 rfl) ?_
  refine jm_useI (va_runV (As := []) (rest := []) ⟨hx, hb, hml, hown, hts⟩ (jm_isl l ad adV B k hk) ⟨⟨rfl, rfl, Nat.le_of_ble_eq_true rfl, Nat.le_of_ble_eq_true rfl, jm_goodc jz_islC hts, List.mem_cons_self, hts _ jz_islC, hts _ jz_i0, ⟨by decide +kernel, by decide +kernel⟩, jm_nof (n := 0) (by decide +kernel), hts _ jz_lisl⟩, hts _ jz_islI, hts _ jz_islV⟩ ⟨fun a U g mk q => ⟨q.1, q.2.warm (Vm.Alike.refl U.vm) rfl⟩, vk_recv hv.1 hk hS, fun U hU hW => ⟨rfl, hv.warm hW.alike hU⟩⟩ rfl rfl hl.1 rfl (lv_room (Nat.le_of_ble_eq_true rfl)) dJ0_charAt_5068e_1 ⟨Nat.le_of_ble_eq_true rfl, Nat.le_of_ble_eq_true rfl⟩) (fun v hv2 => ?_)
  subst hv2
  refine lv_if_eq (tgt := 16) hx hb dJ0_charAt_5068e_4 (by decide) (fun z => absurd z (by decide)) (fun _ => ?_)
  refine lv_aload_n hx hb dJ0_charAt_5068e_7 rfl (lv_at hl 0 rfl) ?_
  refine vk_getf hx hb (hv.1.1 k hk).2.2.1 hS hown (hts _ jz_fva) (fun _ h => h) dJ0_charAt_5068e_8 ?_
  refine lv_iload_n hx hb dJ0_charAt_5068e_11 rfl (lv_at hl 1 rfl) ?_
  refine jm_useI (va_runS (As := [.ref (adV k), .int (Int32.ofNat j)]) (rest := []) ⟨hx, hb, hml, hown, hts⟩ (jm_lat l ad adV B k hk j hj) ⟨⟨rfl, rfl, Nat.le_of_ble_eq_true rfl, Nat.le_of_ble_eq_true rfl, jm_goodc jz_latC hts, List.mem_cons_self, hts _ jz_latC, hts _ jz_i1, ⟨by decide +kernel, by decide +kernel⟩, jm_nof (n := 2) (by decide +kernel), hts _ jz_llat⟩, hts _ jz_latS⟩ ⟨fun a U g mk q => ⟨q.1, q.2.warm (Vm.Alike.refl U.vm) rfl⟩, fun U hU hW => ⟨rfl, hv.warm hW.alike hU⟩⟩ rfl rfl hl.1 rfl (lv_room (Nat.le_of_ble_eq_true rfl)) dJ0_charAt_5068e_12 ⟨Nat.le_of_ble_eq_true rfl, Nat.le_of_ble_eq_true rfl⟩) (fun v hv2 => ?_)
  subst hv2
  exact W.zret hx hb hr (jm_bytc hk j) (fun t ht hW => ⟨_, rfl, rfl, ht⟩) (fun q hq => by cases hq) dJ0_charAt_5068e_15 hlocks
