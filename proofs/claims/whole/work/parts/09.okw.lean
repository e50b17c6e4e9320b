/-! The words that hold at every call. -/
def jm_okw (w : Cond) : Bool := match w with
  | .fieldLinkNest _ _ _ _ _ _ => true
  | .methodLinkNest _ _ _ _ => true
  | w => goodWord w
def jm_all : List Cond := lw_tbl.filter jm_okw
theorem jm_warm {w : Cond} {args a2 : Array Value} {s U : State} (hw : jm_okw w = true) (hW : s.WarmedH U.vm) (h : w.before args s = true) : w.before a2 U = true := by
  unfold jm_okw at hw
  split at hw
  · exact (va_Nw.warmF hW (va_Nw.of rfl h)).use rfl
  · exact (va_Nw.warmM hW (va_Nw.of rfl h)).use rfl
  · exact word_at hW (good_of_word hw) h
theorem jm_tb_in (c : Nat) (w : Cond) (h : w ∈ jm_tb c) : w ∈ lw_tbl := by
  unfold jm_tb at h
  unfold lw_tbl tables_1
  simp only [List.mem_append]
  split at h <;> simp only [h, true_or, or_true]
theorem jm_at_in {p : Nat × Nat} {w : Cond} (h : jm_at p w = true) (hw : jm_okw w = true) : w ∈ jm_all := by
  unfold jm_all
  rw [List.mem_filter]
  exact ⟨jm_tb_in p.1 w (List.mem_of_getElem? (of_decide_eq_true h)), hw⟩
theorem jm_zip {ws : List Cond} {ps : List (Nat × Nat)} (hl : ws.length = ps.length) (h : (ws.zip ps).all (fun q => jm_at q.2 q.1 && jm_okw q.1) = true) : ∀ w ∈ ws, w ∈ jm_all := by
  intro w hw
  obtain ⟨k, hk, rfl⟩ := List.getElem_of_mem hw
  have hk2 : k < (ws.zip ps).length := by rw [List.length_zip, ← hl, Nat.min_self]; exact hk
  have h1 := List.all_eq_true.mp h _ (List.getElem_mem hk2)
  rw [List.getElem_zip, Bool.and_eq_true] at h1
  exact jm_at_in h1.1 h1.2
def jm_kfok (q : jmQ) : Bool := q.2.1.1 != 0 || (decide (q.2.1.2.2.1 < jm_Nf q.2.1.2.1) && ((jm_T q.2.1.2.1 q.2.1.2.2.1).2.2.2 == decide (q.2.1.2.2.2 ≠ 0)) && ((jm_T q.2.1.2.1 q.2.1.2.2.1).1 == jm_own q.2.1.2.1) && (q.1.1 != q.2.1.2.1 || q.2.2.2 == 0))
theorem jm_ko_0 : jmK_0.all (fun q => q.2.1.1 == 7 || jm_okw (jm_lw q)) = true := by decide +kernel
theorem jm_ko_1 : jmK_1.all (fun q => q.2.1.1 == 7 || jm_okw (jm_lw q)) = true := by decide +kernel
theorem jm_ko_2 : jmK_2.all (fun q => q.2.1.1 == 7 || jm_okw (jm_lw q)) = true := by decide +kernel
theorem jm_ko_3 : jmK_3.all (fun q => q.2.1.1 == 7 || jm_okw (jm_lw q)) = true := by decide +kernel
theorem jm_ko_4 : jmK_4.all (fun q => q.2.1.1 == 7 || jm_okw (jm_lw q)) = true := by decide +kernel
theorem jm_ko_5 : jmK_5.all (fun q => q.2.1.1 == 7 || jm_okw (jm_lw q)) = true := by decide +kernel
theorem jm_ko_6 : jmK_6.all (fun q => q.2.1.1 == 7 || jm_okw (jm_lw q)) = true := by decide +kernel
theorem jm_ko_7 : jmK_7.all (fun q => q.2.1.1 == 7 || jm_okw (jm_lw q)) = true := by decide +kernel
theorem jm_ko_8 : jmK_8.all (fun q => q.2.1.1 == 7 || jm_okw (jm_lw q)) = true := by decide +kernel
theorem jm_ko_9 : jmK_9.all (fun q => q.2.1.1 == 7 || jm_okw (jm_lw q)) = true := by decide +kernel
theorem jm_ko_10 : jmK_10.all (fun q => q.2.1.1 == 7 || jm_okw (jm_lw q)) = true := by decide +kernel
theorem jm_ko_11 : jmK_11.all (fun q => q.2.1.1 == 7 || jm_okw (jm_lw q)) = true := by decide +kernel
theorem jm_ko_12 : jmK_12.all (fun q => q.2.1.1 == 7 || jm_okw (jm_lw q)) = true := by decide +kernel
theorem jm_to : jmT.all (fun q => q.2.2.2.2.2.1 == 3 || (jm_okw (.code q.1 q.2.1 q.2.2.1 q.2.2.2.1) && jm_okw (.initialized q.1.cls) && jm_okw (.instanceMethod q.1) && jm_okw (.static q.1) && jm_okw (.selects q.1.cls q.1 q.1))) = true := by decide +kernel
set_option maxRecDepth 100000 in
theorem jm_ly_0 : ((u_ws RX0 TX0 15).zip [(2, 64), (2, 66), (2, 68), (2, 70), (2, 72), (2, 74), (2, 76), (2, 78), (2, 80), (2, 82), (2, 84), (2, 86), (2, 88), (2, 90), (2, 92)]).all (fun q => jm_at q.2 q.1 && jm_okw q.1) = true := by decide +kernel
theorem jm_lys_0 : ∀ w ∈ u_ws RX0 TX0 15, w ∈ jm_all := jm_zip rfl jm_ly_0
set_option maxRecDepth 100000 in
theorem jm_ly_1 : ((u_ws RX1 TX1 18).zip [(1, 127), (1, 129), (1, 131), (1, 133), (1, 135), (1, 137), (1, 139), (1, 141), (1, 143), (1, 145), (1, 147), (1, 149), (1, 151), (1, 153), (1, 155), (1, 157), (1, 159), (1, 161)]).all (fun q => jm_at q.2 q.1 && jm_okw q.1) = true := by decide +kernel
theorem jm_lys_1 : ∀ w ∈ u_ws RX1 TX1 18, w ∈ jm_all := jm_zip rfl jm_ly_1
set_option maxRecDepth 100000 in
theorem jm_ly_2 : ((u_ws RX2 TX2 2).zip [(2, 126), (2, 128)]).all (fun q => jm_at q.2 q.1 && jm_okw q.1) = true := by decide +kernel
theorem jm_lys_2 : ∀ w ∈ u_ws RX2 TX2 2, w ∈ jm_all := jm_zip rfl jm_ly_2
set_option maxRecDepth 100000 in
theorem jm_ly_3 : ((u_ws RX3 TX3 12).zip [(1, 186), (1, 188), (1, 190), (1, 192), (1, 194), (1, 196), (1, 198), (1, 200), (1, 202), (1, 204), (1, 206), (1, 208)]).all (fun q => jm_at q.2 q.1 && jm_okw q.1) = true := by decide +kernel
theorem jm_lys_3 : ∀ w ∈ u_ws RX3 TX3 12, w ∈ jm_all := jm_zip rfl jm_ly_3
set_option maxRecDepth 100000 in
theorem jm_ly_4 : ((u_ws RX4 TX4 11).zip [(2, 7), (2, 9), (2, 11), (2, 13), (2, 15), (2, 17), (2, 19), (2, 21), (2, 23), (2, 25), (2, 27)]).all (fun q => jm_at q.2 q.1 && jm_okw q.1) = true := by decide +kernel
theorem jm_lys_4 : ∀ w ∈ u_ws RX4 TX4 11, w ∈ jm_all := jm_zip rfl jm_ly_4
set_option maxRecDepth 100000 in
theorem jm_ly_5 : ((u_ws RX5 TX5 4).zip [(1, 40), (1, 42), (1, 44), (1, 46)]).all (fun q => jm_at q.2 q.1 && jm_okw q.1) = true := by decide +kernel
theorem jm_lys_5 : ∀ w ∈ u_ws RX5 TX5 4, w ∈ jm_all := jm_zip rfl jm_ly_5
set_option maxRecDepth 100000 in
theorem jm_ly_6 : ((u_ws RX6 TX6 3).zip [(2, 107), (2, 109), (2, 111)]).all (fun q => jm_at q.2 q.1 && jm_okw q.1) = true := by decide +kernel
theorem jm_lys_6 : ∀ w ∈ u_ws RX6 TX6 3, w ∈ jm_all := jm_zip rfl jm_ly_6
set_option maxRecDepth 100000 in
theorem jm_ly_7 : ((u_ws RX7 TX7 15).zip [(2, 146), (2, 148), (2, 150), (2, 152), (2, 154), (2, 156), (2, 158), (2, 160), (2, 162), (2, 164), (2, 166), (2, 168), (2, 170), (2, 172), (2, 174)]).all (fun q => jm_at q.2 q.1 && jm_okw q.1) = true := by decide +kernel
theorem jm_lys_7 : ∀ w ∈ u_ws RX7 TX7 15, w ∈ jm_all := jm_zip rfl jm_ly_7
set_option maxRecDepth 100000 in
theorem jm_ly_8 : ((u_ws RX8 TX8 33).zip [(7, 16), (7, 18), (7, 20), (7, 22), (7, 24), (7, 26), (7, 28), (7, 30), (7, 32), (7, 34), (7, 36), (7, 38), (7, 40), (7, 42), (7, 44), (7, 46), (7, 48), (7, 50), (7, 52), (7, 54), (7, 56), (7, 58), (7, 60), (7, 62), (7, 64), (7, 66), (7, 68), (7, 70), (7, 72), (7, 74), (7, 76), (7, 78), (7, 80)]).all (fun q => jm_at q.2 q.1 && jm_okw q.1) = true := by decide +kernel
theorem jm_lys_8 : ∀ w ∈ u_ws RX8 TX8 33, w ∈ jm_all := jm_zip rfl jm_ly_8
set_option maxRecDepth 100000 in
theorem jm_ly_9 : ((u_ws RX9 TX9 40).zip [(6, 99), (6, 101), (6, 103), (6, 105), (6, 107), (6, 109), (6, 111), (6, 113), (6, 115), (6, 117), (6, 119), (6, 121), (6, 123), (6, 125), (6, 127), (6, 129), (6, 131), (6, 133), (6, 135), (6, 137), (6, 139), (6, 141), (6, 143), (6, 145), (6, 147), (6, 149), (6, 151), (6, 153), (6, 155), (6, 157), (6, 159), (6, 161), (6, 163), (6, 165), (6, 167), (6, 169), (6, 171), (6, 173), (6, 175), (6, 177)]).all (fun q => jm_at q.2 q.1 && jm_okw q.1) = true := by decide +kernel
theorem jm_lys_9 : ∀ w ∈ u_ws RX9 TX9 40, w ∈ jm_all := jm_zip rfl jm_ly_9
theorem jw_arrI : (.arrayClass .int : Cond) ∈ jm_all := jm_at_in (p := (1, 49)) (by decide +kernel) (by decide +kernel)
theorem jw_arrB : (.arrayClass .byte : Cond) ∈ jm_all := jm_at_in (p := (3, 232)) (by decide +kernel) (by decide +kernel)
theorem jw_arrL : (.arrayClass .long : Cond) ∈ jm_all := jm_at_in (p := (7, 83)) (by decide +kernel) (by decide +kernel)
theorem jw_cpN : (.native arraycopyName : Cond) ∈ jm_all := jm_at_in (p := (3, 189)) (by decide +kernel) (by decide +kernel)
theorem jw_cpS : (.static arraycopyName : Cond) ∈ jm_all := jm_at_in (p := (3, 188)) (by decide +kernel) (by decide +kernel)
theorem jw_cpI : (.initialized "java/lang/System" : Cond) ∈ jm_all := jm_at_in (p := (1, 15)) (by decide +kernel) (by decide +kernel)
theorem jw_obI : (.instanceMethod objectInit : Cond) ∈ jm_all := jm_at_in (p := (1, 28)) (by decide +kernel) (by decide +kernel)
theorem jw_obC : (.code objectInit ⟨#[0xb1]⟩ 1 none : Cond) ∈ jm_all := jm_at_in (p := (1, 29)) (by decide +kernel) (by decide +kernel)
theorem jw_in0 : (.instantiable RX0 15 : Cond) ∈ jm_all := jm_at_in (p := (2, 31)) (by decide +kernel) (by decide +kernel)
theorem jw_iz0 : (.initialized RX0 : Cond) ∈ jm_all := jm_at_in (p := (1, 7)) (by decide +kernel) (by decide +kernel)
theorem jw_in1 : (.instantiable RX1 18 : Cond) ∈ jm_all := jm_at_in (p := (1, 51)) (by decide +kernel) (by decide +kernel)
theorem jw_iz1 : (.initialized RX1 : Cond) ∈ jm_all := jm_at_in (p := (1, 3)) (by decide +kernel) (by decide +kernel)
theorem jw_in2 : (.instantiable RX2 2 : Cond) ∈ jm_all := jm_at_in (p := (2, 115)) (by decide +kernel) (by decide +kernel)
theorem jw_iz2 : (.initialized RX2 : Cond) ∈ jm_all := jm_at_in (p := (1, 9)) (by decide +kernel) (by decide +kernel)
theorem jw_in3 : (.instantiable RX3 12 : Cond) ∈ jm_all := jm_at_in (p := (1, 165)) (by decide +kernel) (by decide +kernel)
theorem jw_iz3 : (.initialized RX3 : Cond) ∈ jm_all := jm_at_in (p := (1, 5)) (by decide +kernel) (by decide +kernel)
theorem jw_in4 : (.instantiable RX4 11 : Cond) ∈ jm_all := jm_at_in (p := (1, 212)) (by decide +kernel) (by decide +kernel)
theorem jw_iz4 : (.initialized RX4 : Cond) ∈ jm_all := jm_at_in (p := (1, 6)) (by decide +kernel) (by decide +kernel)
theorem jw_in5 : (.instantiable RX5 4 : Cond) ∈ jm_all := jm_at_in (p := (1, 31)) (by decide +kernel) (by decide +kernel)
theorem jw_iz5 : (.initialized RX5 : Cond) ∈ jm_all := jm_at_in (p := (1, 2)) (by decide +kernel) (by decide +kernel)
theorem jw_in6 : (.instantiable RX6 3 : Cond) ∈ jm_all := jm_at_in (p := (2, 96)) (by decide +kernel) (by decide +kernel)
theorem jw_iz6 : (.initialized RX6 : Cond) ∈ jm_all := jm_at_in (p := (1, 8)) (by decide +kernel) (by decide +kernel)
theorem jw_in7 : (.instantiable RX7 15 : Cond) ∈ jm_all := jm_at_in (p := (1, 23)) (by decide +kernel) (by decide +kernel)
theorem jw_iz7 : (.initialized RX7 : Cond) ∈ jm_all := jm_at_in (p := (1, 1)) (by decide +kernel) (by decide +kernel)
theorem jw_in8 : (.instantiable RX8 33 : Cond) ∈ jm_all := jm_at_in (p := (6, 197)) (by decide +kernel) (by decide +kernel)
theorem jw_iz8 : (.initialized RX8 : Cond) ∈ jm_all := jm_at_in (p := (1, 16)) (by decide +kernel) (by decide +kernel)
theorem jw_in9 : (.instantiable RX9 40 : Cond) ∈ jm_all := jm_at_in (p := (6, 54)) (by decide +kernel) (by decide +kernel)
theorem jw_iz9 : (.initialized RX9 : Cond) ∈ jm_all := jm_at_in (p := (1, 10)) (by decide +kernel) (by decide +kernel)
theorem jm_arrO : (.arrayOver (.object RX4) : Cond) ∈ lw_tbl := jm_tb_in 2 _ (List.mem_of_getElem? (i := 102) (by decide +kernel))
theorem jm_fq_in {o idx : Nat} {q : jmQ} (h : jm_fq o idx = some q) : q.1 = (o, idx) ∧ ((jm_tb q.2.2.1.1)[q.2.2.1.2]? = some (jm_lw q)) ∧ (q.2.1.1 = 7 ∨ jm_okw (jm_lw q) = true) := by
  have key : ∀ (l : List jmQ), l.all jm_qok = true → l.all (fun q => q.2.1.1 == 7 || jm_okw (jm_lw q)) = true → l.find? (fun q => q.1.2 == idx && q.1.1 == o) = some q → q.1 = (o, idx) ∧ ((jm_tb q.2.2.1.1)[q.2.2.1.2]? = some (jm_lw q)) ∧ (q.2.1.1 = 7 ∨ jm_okw (jm_lw q) = true) := by
    intro l h1 h2 h3
    have hm := List.mem_of_find?_eq_some h3
    have hp := List.find?_some h3
    have e1 := List.all_eq_true.mp h1 _ hm
    have e2 := List.all_eq_true.mp h2 _ hm
    simp only [Bool.and_eq_true, beq_iff_eq] at hp
    simp only [Bool.or_eq_true, beq_iff_eq] at e2
    exact ⟨Prod.ext hp.2 hp.1, of_decide_eq_true e1, e2⟩
  unfold jm_fq at h
  match o, h with
  | 0, h => exact key jmK_0 jm_q_0 jm_ko_0 h
  | 1, h => exact key jmK_1 jm_q_1 jm_ko_1 h
  | 2, h => exact key jmK_2 jm_q_2 jm_ko_2 h
  | 3, h => exact key jmK_3 jm_q_3 jm_ko_3 h
  | 4, h => exact key jmK_4 jm_q_4 jm_ko_4 h
  | 5, h => exact key jmK_5 jm_q_5 jm_ko_5 h
  | 6, h => exact key jmK_6 jm_q_6 jm_ko_6 h
  | 7, h => exact key jmK_7 jm_q_7 jm_ko_7 h
  | 8, h => exact key jmK_8 jm_q_8 jm_ko_8 h
  | 9, h => exact key jmK_9 jm_q_9 jm_ko_9 h
  | 10, h => exact key jmK_10 jm_q_10 jm_ko_10 h
  | 11, h => exact key jmK_11 jm_q_11 jm_ko_11 h
  | 12, h => exact key jmK_12 jm_q_12 jm_ko_12 h
  | k + 13, h => exact absurd h (by simp [jmK])
theorem jm_lk_in {o idx kd a b : Nat} {z : Int} (h : jm_lk o idx = (kd, a, b, z)) (hr : kd < 99) : ∃ q : jmQ, q.1 = (o, idx) ∧ q.2.1 = (kd, a, b, z) ∧ (jm_lw q ∈ lw_tbl) ∧ (kd = 7 ∨ jm_lw q ∈ jm_all) := by
  unfold jm_lk at h
  split at h
  · rename_i q hq
    obtain ⟨h1, h2, h3⟩ := jm_fq_in hq
    have hm := jm_tb_in _ _ (List.mem_of_getElem? h2)
    refine ⟨q, h1, h, hm, ?_⟩
    rcases h3 with h3 | h3
    · exact Or.inl (by rw [h] at h3; exact h3)
    · exact Or.inr (List.mem_filter.mpr ⟨hm, h3⟩)
  · cases h
    exact absurd hr (by decide)
theorem jm_kc_0 : jmK_0.all jm_kfok = true := by decide +kernel
theorem jm_kc_1 : jmK_1.all jm_kfok = true := by decide +kernel
theorem jm_kc_2 : jmK_2.all jm_kfok = true := by decide +kernel
theorem jm_kc_3 : jmK_3.all jm_kfok = true := by decide +kernel
theorem jm_kc_4 : jmK_4.all jm_kfok = true := by decide +kernel
theorem jm_kc_5 : jmK_5.all jm_kfok = true := by decide +kernel
theorem jm_kc_6 : jmK_6.all jm_kfok = true := by decide +kernel
theorem jm_kc_7 : jmK_7.all jm_kfok = true := by decide +kernel
theorem jm_kc_8 : jmK_8.all jm_kfok = true := by decide +kernel
theorem jm_kc_9 : jmK_9.all jm_kfok = true := by decide +kernel
theorem jm_kc_10 : jmK_10.all jm_kfok = true := by decide +kernel
theorem jm_kc_11 : jmK_11.all jm_kfok = true := by decide +kernel
theorem jm_kc_12 : jmK_12.all jm_kfok = true := by decide +kernel
theorem jm_kf_in {o idx ci k : Nat} {fin : Int} (h : jm_lk o idx = (0, ci, k, fin)) : k < jm_Nf ci ∧ (jm_T ci k).2.2.2 = decide (fin ≠ 0) ∧ (jm_T ci k).1 = jm_own ci ∧ (o = ci → ∃ q : jmQ, q.1 = (o, idx) ∧ q.2.1 = (0, ci, k, fin) ∧ q.2.2.2 = 0 ∧ jm_lw q ∈ jm_all) := by
  have key : ∀ (l : List jmQ), l.all jm_kfok = true → ∀ q, l.find? (fun q => q.1.2 == idx && q.1.1 == o) = some q → jm_kfok q = true := by
    intro l h1 q h3
    exact List.all_eq_true.mp h1 _ (List.mem_of_find?_eq_some h3)
  have h0 := h
  unfold jm_lk at h
  split at h
  · rename_i q hq
    have hk : jm_kfok q = true := by
      unfold jm_fq at hq
      match o, hq with
      | 0, hq => exact key jmK_0 jm_kc_0 q hq
      | 1, hq => exact key jmK_1 jm_kc_1 q hq
      | 2, hq => exact key jmK_2 jm_kc_2 q hq
      | 3, hq => exact key jmK_3 jm_kc_3 q hq
      | 4, hq => exact key jmK_4 jm_kc_4 q hq
      | 5, hq => exact key jmK_5 jm_kc_5 q hq
      | 6, hq => exact key jmK_6 jm_kc_6 q hq
      | 7, hq => exact key jmK_7 jm_kc_7 q hq
      | 8, hq => exact key jmK_8 jm_kc_8 q hq
      | 9, hq => exact key jmK_9 jm_kc_9 q hq
      | 10, hq => exact key jmK_10 jm_kc_10 q hq
      | 11, hq => exact key jmK_11 jm_kc_11 q hq
      | 12, hq => exact key jmK_12 jm_kc_12 q hq
      | z + 13, hq => exact absurd hq (by simp [jmK])
    obtain ⟨e1, -, e3⟩ := jm_fq_in hq
    unfold jm_kfok at hk
    simp only [h] at hk
    simp only [Bool.and_eq_true, decide_eq_true_eq, beq_iff_eq, Bool.or_eq_true, bne_iff_ne, ne_eq] at hk
    have hk := hk.resolve_left (by decide)
    refine ⟨hk.1.1.1, by rw [hk.1.1.2], hk.1.2, fun hoc => ⟨q, e1, h, ?_, ?_⟩⟩
    · rcases hk.2 with z | z
      · rw [e1] at z
        exact absurd hoc z
      · exact z
    · obtain ⟨q2, g1, g2, -, g4⟩ := jm_lk_in h0 (by decide)
      rcases e3 with e3 | e3
      · rw [h] at e3
        cases e3
      · exact List.mem_filter.mpr ⟨jm_tb_in _ _ (List.mem_of_getElem? (jm_fq_in hq).2.1), e3⟩
  · cases h
theorem jm_tz {j : Nat} {q : jmQT} (h : jmT[j]? = some q) : q.2.2.2.2.2.1 = 3 ∨ ∃ p, jm_tok q p = true := by
  have key : ∀ (l : List jmQT) (ps : List ((Nat × Nat) × (Nat × Nat) × (Nat × Nat) × Nat × Nat)), l.length = ps.length → (l.zip ps).all (fun q => jm_tok q.1 q.2) = true → ∀ q ∈ l, ∃ p, jm_tok q p = true := by
    intro l ps hl ha q hq
    obtain ⟨k, hk, rfl⟩ := List.getElem_of_mem hq
    have hk2 : k < (l.zip ps).length := by rw [List.length_zip, ← hl, Nat.min_self]; exact hk
    have h1 := List.all_eq_true.mp ha _ (List.getElem_mem hk2)
    rw [List.getElem_zip] at h1
    exact ⟨_, h1⟩
  have hm := List.mem_of_getElem? h
  refine Or.inr ?_
  unfold jmT at hm
  simp only [List.mem_append] at hm
  rcases hm with hm | hm | hm | hm | hm | hm | hm | hm | hm | hm | hm | hm | hm | hm | hm | hm | hm | hm | hm | hm | hm | hm | hm | hm | hm | hm | hm | hm | hm | hm | hm | hm
  · exact key jmT_0 jmTp_0 rfl jm_t_0 q hm
  · exact key jmT_1 jmTp_1 rfl jm_t_1 q hm
  · exact key jmT_2 jmTp_2 rfl jm_t_2 q hm
  · exact key jmT_3 jmTp_3 rfl jm_t_3 q hm
  · exact key jmT_4 jmTp_4 rfl jm_t_4 q hm
  · exact key jmT_5 jmTp_5 rfl jm_t_5 q hm
  · exact key jmT_6 jmTp_6 rfl jm_t_6 q hm
  · exact key jmT_7 jmTp_7 rfl jm_t_7 q hm
  · exact key jmT_8 jmTp_8 rfl jm_t_8 q hm
  · exact key jmT_9 jmTp_9 rfl jm_t_9 q hm
  · exact key jmT_10 jmTp_10 rfl jm_t_10 q hm
  · exact key jmT_11 jmTp_11 rfl jm_t_11 q hm
  · exact key jmT_12 jmTp_12 rfl jm_t_12 q hm
  · exact key jmT_13 jmTp_13 rfl jm_t_13 q hm
  · exact key jmT_14 jmTp_14 rfl jm_t_14 q hm
  · exact key jmT_15 jmTp_15 rfl jm_t_15 q hm
  · exact key jmT_16 jmTp_16 rfl jm_t_16 q hm
  · exact key jmT_17 jmTp_17 rfl jm_t_17 q hm
  · exact key jmT_18 jmTp_18 rfl jm_t_18 q hm
  · exact key jmT_19 jmTp_19 rfl jm_t_19 q hm
  · exact key jmT_20 jmTp_20 rfl jm_t_20 q hm
  · exact key jmT_21 jmTp_21 rfl jm_t_21 q hm
  · exact key jmT_22 jmTp_22 rfl jm_t_22 q hm
  · exact key jmT_23 jmTp_23 rfl jm_t_23 q hm
  · exact key jmT_24 jmTp_24 rfl jm_t_24 q hm
  · exact key jmT_25 jmTp_25 rfl jm_t_25 q hm
  · exact key jmT_26 jmTp_26 rfl jm_t_26 q hm
  · exact key jmT_27 jmTp_27 rfl jm_t_27 q hm
  · exact key jmT_28 jmTp_28 rfl jm_t_28 q hm
  · exact key jmT_29 jmTp_29 rfl jm_t_29 q hm
  · exact key jmT_30 jmTp_30 rfl jm_t_30 q hm
  · exact key jmT_31 jmTp_31 rfl jm_t_31 q hm
