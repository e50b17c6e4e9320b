/-! How many there are, and were; orders. -/
section THERE
variable {H : Nat → Nat → Int} {r S q g : Nat → Int} {B : Int} {L : Int} {p al st : Int}
theorem au_rn : ∀ (n : Nat) (r : Nat → Int), gAu H n r 289 ≤ r 289 ∧ gAu H n r 290 = r 290 := by
  intro n
  induction n with
  | zero =>
    intro r
    exact ⟨Int.le_refl _, rfl⟩
  | succ n ih =>
    intro r
    have e : gAu H (n + 1) r = gAu H n (if r (236 + ((n + 1 : Nat) : Int)).toNat = 1 ∧ H 17 (gCell r ((n + 1 : Nat) : Int)).toNat = 1 then gOut r ((n + 1 : Nat) : Int) else r) := rfl
    have i := ih (if r (236 + ((n + 1 : Nat) : Int)).toNat = 1 ∧ H 17 (gCell r ((n + 1 : Nat) : Int)).toNat = 1 then gOut r ((n + 1 : Nat) : Int) else r)
    rw [e, i.2]
    refine ⟨Int.le_trans i.1 ?_, ?_⟩
    · split
      · have : gOut r ((n + 1 : Nat) : Int) 289 = r 289 - 1 := up1_s _ _ _
        omega
      · omega
    · split
      · exact gOut_hi (by omega) (by omega)
      · rfl
theorem jn_rn {t p sp : Int} (t1 : 0 ≤ t) (t2 : t < 4) (p1 : 0 ≤ p) (p2 : p < 16) : gJn H r t p sp 290 - gJn H r t p sp 289 = r 290 - r 289 := by
  unfold gJn
  rw [up1_n (b := 290) (by omega), up1_s, up1_n (b := 289) (by omega), up1_n (b := 289) (by omega), up1_s]
  omega
theorem ask_rn (hk : HOK H) (ra : RA H B r) {t : Int} (t1 : 0 ≤ t) (t2 : t < H 0 3) : (gAsk H r t).2 290 - (gAsk H r t).2 289 = r 290 - r 289 := by
  have k3 := hk.2.1
  have h16 := ra.1
  have ab := gAi_bd (H := H) (r := r) (t := t) (by omega)
  have eK : gAsk H r t = if r (284 + t).toNat = 0 ∨ ¬ r 289 < 16 then (0, r) else if gAi H r t = r 289 then (0, r) else if gDr r % 100 < H 23 t.toNat then (1, gJoin H (up1 r 295 (gDr r)) t (gAi H r t)) else (0, up1 r 295 (gDr r)) := rfl
  rw [eK]
  by_cases q1 : r (284 + t).toNat = 0 ∨ ¬ r 289 < 16
  · rw [if_pos q1]
  rw [if_neg q1]
  by_cases q2 : gAi H r t = r 289
  · rw [if_pos q2]
  rw [if_neg q2]
  by_cases q3 : gDr r % 100 < H 23 t.toNat
  · rw [if_pos q3]
    show gJoin H (up1 r 295 (gDr r)) t (gAi H r t) 290 - gJoin H (up1 r 295 (gDr r)) t (gAi H r t) 289 = r 290 - r 289
    unfold gJoin
    rw [up1_n (b := 289) (by omega)]
    split
    · rw [jn_rn t1 (by omega) (by omega) (by omega), up1_n (by omega), up1_n (by omega)]
    · rw [jn_rn t1 (by omega) (by omega) (by omega), up1_n (by omega), up1_n (by omega)]
  · rw [if_neg q3]
    show up1 r 295 (gDr r) 290 - up1 r 295 (gDr r) 289 = r 290 - r 289
    rw [up1_n (by omega), up1_n (by omega)]
theorem aa_rn (hk : HOK H) : ∀ (n : Nat) (t j : Int) (r : Nat → Int), RA H B r → RB r → RW H r → RP r → 0 ≤ t → t + n = H 0 3 → (gAA H n t (j, r)).2 290 - (gAA H n t (j, r)).2 289 = r 290 - r 289 := by
  intro n
  induction n with
  | zero =>
    intro t j r ra rb rw0 rp t1 t2
    rfl
  | succ n ih =>
    intro t j r ra rb rw0 rp t1 t2
    obtain ⟨x0, x1, x2, x3, x4, -, -⟩ := ask_ok hk ra rb rw0 rp t1 (t := t) (by omega)
    have e : gAA H (n + 1) t (j, r) = gAA H n (t + 1) (j + (gAsk H r t).1, (gAsk H r t).2) := rfl
    rw [e, ih _ _ _ x1 x2 x3 x4 (by omega) (by omega), ask_rn hk ra t1 (by omega)]
theorem beat_rn (hk : HOK H) (l2 : L ≤ 12) (s1 : ∀ k, k < 12 → 0 ≤ S k ∧ S k ≤ 3) {x : gX} (al1 : 0 ≤ al) (al3 : al ≤ 3) (ri : RI H B x.1) (h0 : x.1 289 + x.2.2.1 ≤ x.1 290) : (gBeat H L S al st x).1 289 + (gBeat H L S al st x).2.2.1 ≤ (gBeat H L S al st x).1 290 := by
  obtain ⟨r, g, o, j, tn⟩ := x
  obtain ⟨ra, rb, rw0, rp, r203⟩ := ri
  dsimp only at ra rb rw0 rp r203 h0
  by_cases q1 : 0 < gOver r
  · rw [beat_over q1]
    exact h0
  · have h16 := ra.1
    have h17 := ra.2.1
    have r97 := ra.2.2.2.2.2.2.2.2.2.2.2.2.2.2.2.2
    obtain ⟨h97, hl⟩ := over_r r97 q1
    have eB : gBeat H L S al st (r, g, o, j, tn) = gB1 H o j (gB0 H L S (gSteps H r al st).toNat (up1 r 294 (r 294 + 1)) g) := if_neg q1
    have hdue : 0 ≤ gSteps H r al st ∧ gSteps H r al st ≤ 3 := by
      have m1 : 0 ≤ r 294 % H 0 5 := Int.emod_nonneg _ (by have := hk.2.1; omega)
      have m2 : r 294 % H 0 5 < H 0 5 := Int.emod_lt_of_pos _ (by have := hk.2.1; omega)
      have k7 := hk.2.2.2.2.2.2.1 (r 294 % H 0 5) m1 m2
      unfold gSteps
      split
      · split <;> omega
      · omega
    have ra2 : RA H (B + 1) (up1 r 294 (r 294 + 1)) := ra.up
    have eu : ∀ k, k ≠ 294 → up1 r 294 (r 294 + 1) k = r k := fun k hk => up1_n hk
    have rb2 : RB (up1 r 294 (r 294 + 1)) := RB_d (r := r) (fun k k1 k2 => eu k (by omega)) (eu _ (by omega)) (eu _ (by omega)) (eu _ (by omega)) (by omega) rb
    have rw2 : RW H (up1 r 294 (r 294 + 1)) := RW_c (fun k hk => eu k (by omega)) (eu _ (by omega)) ra rw0
    have rp2 : RP (up1 r 294 (r 294 + 1)) := RP_c (fun k k1 k2 => eu k (by omega)) (eu _ (by omega)) (eu _ (by omega)) (by omega) rp
    obtain ⟨y1, y2, y3, y4, y5, y6, y7⟩ := b0_ok hk l2 s1 ra2 rb2 rw2 rp2 (n := (gSteps H r al st).toNat) (by rw [eu _ (by omega)]; omega) g
    have gk := go_keep (L := L) (S := S) (gSteps H r al st).toNat _ (B + 1) hk l2 s1 ra2 rb2 rw2 (by rw [eu _ (by omega)]; omega)
    have hi1 : ∀ k, k = 289 ∨ k = 290 → (gB0 H L S (gSteps H r al st).toNat (up1 r 294 (r 294 + 1)) g).1 k = r k := by
      intro k hk2
      unfold gB0
      dsimp only
      rw [up1_n (by omega), gk k (by omega) (by omega) (by omega) (by omega) (by omega) (by omega), eu k (by omega)]
    have a1 := hi1 289 (by omega)
    have a2 := hi1 290 (by omega)
    rw [eB]
    generalize gB0 H L S (gSteps H r al st).toNat (up1 r 294 (r 294 + 1)) g = x at *
    obtain ⟨r3, g3⟩ := x
    dsimp only at y1 y2 y3 y4 a1 a2
    by_cases q2 : r3 297 = 1
    · have eB1 : gB1 H o j (r3, g3) = (r3, g3, o, j, -1) := if_pos q2
      rw [eB1]
      show r3 289 + o ≤ r3 290
      omega
    · have eB1 : gB1 H o j (r3, g3) = gB5 H j (gFA (r3 289 - 1).toNat 1 (r3, g3)).2 (gB2 (gFA (r3 289 - 1).toNat 1 (r3, g3)).1 o) := if_neg q2
      rw [eB1]
      have h3 := y1.1
      obtain ⟨x1, x2, x3, x4, x5⟩ := fa_ok (r3 289 - 1).toNat 1 r3 g3 y1 y2 y3 y4 (by omega) (by omega)
      generalize gFA (r3 289 - 1).toNat 1 (r3, g3) = y at *
      obtain ⟨r4, g4⟩ := y
      dsimp only at x1 x2 x3 x4 x5
      have r4h := x1.1
      have ti := te_in (r := r4) (by omega)
      have c1 := x5 289 (by omega)
      have c2 := x5 290 (by omega)
      have c5 : RA H (B + 1) (gB2 r4 o).1 ∧ RB (gB2 r4 o).1 ∧ RW H (gB2 r4 o).1 ∧ RP (gB2 r4 o).1 ∧ (gB2 r4 o).1 289 + (gB2 r4 o).2.1 = r4 289 + o ∧ (gB2 r4 o).1 290 = r4 290 := by
        unfold gB2
        by_cases z : gTi r4 < r4 289
        · rw [if_pos z]
          obtain ⟨c1, c2, c3, c4⟩ := cut_ok x1 x2 x3 x4 ti.1 ti.2
          refine ⟨c1, c2, c3, c4, ?_, (up1_n (by decide) : up1 r4 289 (gTi r4) 290 = r4 290)⟩
          show up1 r4 289 (gTi r4) 289 + (o + (r4 289 - gTi r4)) = r4 289 + o
          rw [up1_s]
          omega
        · rw [if_neg z]
          exact ⟨x1, x2, x3, x4, rfl, rfl⟩
      generalize gB2 r4 o = y at *
      obtain ⟨r5, o5, tn5⟩ := y
      dsimp only at c5
      obtain ⟨v1, v2, v3, v4, v5, v6⟩ := c5
      have r5h := v1.1
      obtain ⟨u1, u2, u3, u4⟩ := au_ok hk (r5 289 - 1).toNat r5 v1 v2 v3 v4 (by omega)
      have ua := au_rn (H := H) (r5 289 - 1).toNat r5
      have aa := aa_rn hk (H 0 3).toNat 0 j _ u1 u2 u3 u4 (by omega) (by have := hk.2.1; omega)
      show (gAA H (H 0 3).toNat 0 (j, gAu H (r5 289 - 1).toNat r5)).2 289 + o5 ≤ (gAA H (H 0 3).toNat 0 (j, gAu H (r5 289 - 1).toNat r5)).2 290
      omega
theorem f1_rn (hk : HOK H) (l2 : L ≤ 12) (s1 : ∀ k, k < 12 → 0 ≤ S k ∧ S k ≤ 3) {z : gZ} (hz : ZB H B p z) (h0 : z.1.1 289 + z.1.2.2.1 ≤ z.1.1 290) : (gF1 H L S p z).1.1 289 + (gF1 H L S p z).1.2.2.1 ≤ (gF1 H L S p z).1.1 290 := by
  by_cases q : 0 < gOver z.1.1
  · rw [f1_over q]
    exact h0
  · have hp := hz.2.1
    rw [f1_go q rfl rfl]
    exact beat_rn hk l2 s1 (by split <;> omega) (by split <;> omega) hz.1 h0
theorem fr_rn (hk : HOK H) (l2 : L ≤ 12) (s1 : ∀ k, k < 12 → 0 ≤ S k ∧ S k ≤ 3) : ∀ (n : Nat) (z : gZ) (B : Int), ZB H B p z → z.1.1 289 + z.1.2.2.1 ≤ z.1.1 290 → (gFr H L S p n z).1.1 289 + (gFr H L S p n z).1.2.2.1 ≤ (gFr H L S p n z).1.1 290 := by
  intro n
  induction n with
  | zero =>
    intro z B hz h0
    exact h0
  | succ n ih =>
    intro z B hz h0
    have e : gFr H L S p (n + 1) z = gFr H L S p n (gF1 H L S p z) := rfl
    rw [e]
    exact ih _ _ (f1_zb hk l2 s1 hz) (f1_rn hk l2 s1 hz h0)
end THERE
/-- the last place that rises -/
def gRs (f : Nat → Int) : Nat → Nat
  | 0 => 0
  | m + 1 => if f (m + 2) < f (m + 1) then gRs f m else m + 1
/-- the last that is no less -/
def gOj (f : Nat → Int) (i : Nat) : Nat → Nat
  | 0 => 0
  | m + 1 => if f (m + 1) < f i then gOj f i m else m + 1
def gSwf (f : Nat → Int) (i j : Nat) : Nat → Int := up1 (up1 f i (f j)) j (f i)
def gRv : Nat → (Nat → Int) → Nat → Nat → Nat → Int
  | 0, f, _, _ => f
  | k + 1, f, a, b => if a < b then gRv k (gSwf f a b) (a + 1) (b - 1) else f
/-- the next order of n -/
def gNx (n : Nat) (f : Nat → Int) : Option (Nat → Int) :=
  if n < 3 ∨ gRs f (n - 2) = 0 then none
  else some (fun k => if k < n then gRv n (gSwf f (gRs f (n - 2)) (gOj f (gRs f (n - 2)) (n - 1))) (gRs f (n - 2) + 1) (n - 1) k else 0)
def gId (n : Nat) : Nat → Int := fun k => if k < n then (k : Int) else 0
section PERM
variable {f : Nat → Int} {n : Nat}
theorem rs_bd : ∀ m : Nat, gRs f m ≤ m := by
  intro m
  induction m with
  | zero => exact Nat.le_refl _
  | succ m ih =>
    have e : gRs f (m + 1) = if f (m + 2) < f (m + 1) then gRs f m else m + 1 := rfl
    rw [e]
    split <;> omega
theorem rs_up : ∀ m : Nat, 0 < gRs f m → f (gRs f m) ≤ f (gRs f m + 1) := by
  intro m
  induction m with
  | zero =>
    intro h
    have : gRs f 0 = 0 := rfl
    omega
  | succ m ih =>
    have e : gRs f (m + 1) = if f (m + 2) < f (m + 1) then gRs f m else m + 1 := rfl
    rw [e]
    split
    · exact ih
    · intro h
      rename_i z
      show f (m + 1) ≤ f (m + 2)
      omega
theorem oj_bd {i : Nat} (h : f i ≤ f (i + 1)) : ∀ m : Nat, i + 1 ≤ m → i + 1 ≤ gOj f i m ∧ gOj f i m ≤ m := by
  intro m
  induction m with
  | zero =>
    intro hm
    omega
  | succ m ih =>
    intro hm
    have e : gOj f i (m + 1) = if f (m + 1) < f i then gOj f i m else m + 1 := rfl
    rw [e]
    by_cases z : f (m + 1) < f i
    · rw [if_pos z]
      by_cases y : m = i
      · subst y
        omega
      · have := ih (by omega)
        omega
    · rw [if_neg z]
      omega
/-- each is a place -/
def PF (n : Nat) (f : Nat → Int) : Prop := ∀ k, k < n → 0 ≤ f k ∧ f k < n
theorem sw_pf {i j : Nat} (h : PF n f) (hi : i < n) (hj : j < n) : PF n (gSwf f i j) := by
  intro k hk
  unfold gSwf
  by_cases z : k = j
  · rw [z, up1_s]
    exact h i hi
  · rw [up1_n z]
    by_cases y : k = i
    · rw [y, up1_s]
      exact h j hj
    · rw [up1_n y]
      exact h k hk
theorem rv_pf : ∀ (m : Nat) (f : Nat → Int) (a b : Nat), PF n f → b < n → PF n (gRv m f a b) := by
  intro m
  induction m with
  | zero =>
    intro f a b h hb
    exact h
  | succ m ih =>
    intro f a b h hb
    have e : gRv (m + 1) f a b = if a < b then gRv m (gSwf f a b) (a + 1) (b - 1) else f := rfl
    rw [e]
    split
    · exact ih _ _ _ (sw_pf h (by omega) hb) (by omega)
    · exact h
theorem nx_pf {f2 : Nat → Int} (h : PF n f) (e : gNx n f = some f2) : PF n f2 := by
  unfold gNx at e
  by_cases z : n < 3 ∨ gRs f (n - 2) = 0
  · rw [if_pos z] at e
    cases e
  · rw [if_neg z] at e
    have e2 := Option.some.inj e
    have b1 := rs_bd (f := f) (n - 2)
    have b2 := oj_bd (rs_up (f := f) (n - 2) (by omega)) (n - 1) (by omega)
    intro k hk
    rw [← e2]
    show 0 ≤ (if k < n then _ else (0 : Int)) ∧ (if k < n then _ else (0 : Int)) < n
    rw [if_pos hk]
    exact rv_pf n _ _ _ (sw_pf h (by omega) (by omega)) (by omega) k hk
theorem id_pf : PF n (gId n) := by
  intro k hk
  unfold gId
  rw [if_pos hk]
  omega
end PERM
/-- so many orders at most -/
def gEn (n : Nat) : Nat → (Nat → Int) → Prop
  | 0, _ => False
  | k + 1, f => match gNx n f with | none => True | some f2 => gEn n k f2
def gDec (a : Nat) : Nat → Int := fun k => ((a / 8 ^ k % 8 : Nat) : Int)
def gChk (n : Nat) : List Nat → Bool
  | [] => false
  | [a] => match gNx n (gDec a) with | none => true | some _ => false
  | a :: b :: t => (match gNx n (gDec a) with | none => false | some f => (List.range n).all (fun k => decide (f k = gDec b k)) && decide (b < 8 ^ n)) && gChk n (b :: t)
def gAll1 : List Nat := [0]
def gAll2 : List Nat := [8]
def gAll3 : List Nat := [136, 80]
def gAll4 : List Nat := [1672, 1224, 1616, 720, 1112, 664]
def gAll5 : List Nat := [18056, 14472, 17608, 10440, 13576, 9992, 18000, 14416, 17104, 6352, 13072, 5904, 17496, 10328, 17048, 6296, 8984, 5400, 13408, 9824, 12960, 5792, 8928, 5344]
def gAll6 : List Nat := [181896, 153224, 178312, 120968, 146056, 117384, 181448, 152776, 174280, 88264, 142024, 84680, 177416, 120072, 173832, 87816, 109320, 80648, 144712, 116040, 141128, 83784, 108872, 80200, 181840, 153168, 178256, 120912, 146000, 117328, 180944, 152272, 170192, 55504, 137936, 51920, 176912, 119568, 169744, 55056, 105232, 47888, 144208, 115536, 137040, 51024, 104784, 47440, 181336, 152664, 174168, 88152, 141912, 84568, 180888, 152216, 170136, 55448, 137880, 51864, 172824, 86808, 169240, 54552, 72472, 43800, 140120, 82776, 136536, 50520, 72024, 43352, 177248, 119904, 173664, 87648, 109152, 80480, 176800, 119456, 169632, 54944, 105120, 47776, 172768, 86752, 169184, 54496, 72416, 43744, 107360, 78688, 103776, 46432, 71520, 42848, 144488, 115816, 140904, 83560, 108648, 79976, 144040, 115368, 136872, 50856, 104616, 47272, 140008, 82664, 136424, 50408, 71912, 43240, 107304, 78632, 103720, 46376, 71464, 42792]
def gAll7 : List Nat := [1754760, 1525384, 1726088, 1267336, 1468040, 1238664, 1751176, 1521800, 1693832, 1005704, 1435784, 977032, 1718920, 1260168, 1690248, 1002120, 1174152, 944776, 1457288, 1227912, 1428616, 969864, 1170568, 941192, 1754312, 1524936, 1725640, 1266888, 1467592, 1238216, 1747144, 1517768, 1661128, 743624, 1403080, 714952, 1714888, 1256136, 1657544, 740040, 1141448, 682696, 1453256, 1223880, 1395912, 707784, 1137864, 679112, 1750280, 1520904, 1692936, 1004808, 1434888, 976136, 1746696, 1517320, 1660680, 743176, 1402632, 714504, 1682184, 994056, 1653512, 736008, 879368, 649992, 1420552, 961800, 1391880, 703752, 875784, 646408, 1717576, 1258824, 1688904, 1000776, 1172808, 943432, 1713992, 1255240, 1656648, 739144, 1140552, 681800, 1681736, 993608, 1653064, 735560, 878920, 649544, 1158472, 929096, 1129800, 671048, 871752, 642376, 1455496, 1226120, 1426824, 968072, 1168776, 939400, 1451912, 1222536, 1394568, 706440, 1136520, 677768, 1419656, 960904, 1390984, 702856, 874888, 645512, 1158024, 928648, 1129352, 670600, 871304, 641928, 1754704, 1525328, 1726032, 1267280, 1467984, 1238608, 1751120, 1521744, 1693776, 1005648, 1435728, 976976, 1718864, 1260112, 1690192, 1002064, 1174096, 944720, 1457232, 1227856, 1428560, 969808, 1170512, 941136, 1753808, 1524432, 1725136, 1266384, 1467088, 1237712, 1743056, 1513680, 1628368, 481488, 1370320, 452816, 1710800, 1252048, 1624784, 477904, 1108688, 420560, 1449168, 1219792, 1363152, 445648, 1105104, 416976, 1749776, 1520400, 1692432, 1004304, 1434384, 975632, 1742608, 1513232, 1627920, 481040, 1369872, 452368, 1678096, 989968, 1620752, 473872, 846608, 387856, 1416464, 957712, 1359120, 441616, 843024, 384272, 1717072, 1258320, 1688400, 1000272, 1172304, 942928, 1709904, 1251152, 1623888, 477008, 1107792, 419664, 1677648, 989520, 1620304, 473424, 846160, 387408, 1154384, 925008, 1097040, 408912, 838992, 380240, 1454992, 1225616, 1426320, 967568, 1168272, 938896, 1447824, 1218448, 1361808, 444304, 1103760, 415632, 1415568, 956816, 1358224, 440720, 842128, 383376, 1153936, 924560, 1096592, 408464, 838544, 379792, 1754200, 1524824, 1725528, 1266776, 1467480, 1238104, 1747032, 1517656, 1661016, 743512, 1402968, 714840, 1714776, 1256024, 1657432, 739928, 1141336, 682584, 1453144, 1223768, 1395800, 707672, 1137752, 679000, 1753752, 1524376, 1725080, 1266328, 1467032, 1237656, 1743000, 1513624, 1628312, 481432, 1370264, 452760, 1710744, 1251992, 1624728, 477848, 1108632, 420504, 1449112, 1219736, 1363096, 445592, 1105048, 416920, 1745688, 1516312, 1659672, 742168, 1401624, 713496, 1742104, 1512728, 1627416, 480536, 1369368, 451864, 1645336, 727832, 1616664, 469784, 584472, 355096, 1383704, 695576, 1355032, 437528, 580888, 351512, 1712984, 1254232, 1655640, 738136, 1139544, 680792, 1709400, 1250648, 1623384, 476504, 1107288, 419160, 1644888, 727384, 1616216, 469336, 584024, 354648, 1121624, 662872, 1092952, 404824, 576856, 347480, 1450904, 1221528, 1393560, 705432, 1135512, 676760, 1447320, 1217944, 1361304, 443800, 1103256, 415128, 1382808, 694680, 1354136, 436632, 579992, 350616, 1121176, 662424, 1092504, 404376, 576408, 347032, 1750112, 1520736, 1692768, 1004640, 1434720, 975968, 1746528, 1517152, 1660512, 743008, 1402464, 714336, 1682016, 993888, 1653344, 735840, 879200, 649824, 1420384, 961632, 1391712, 703584, 875616, 646240, 1749664, 1520288, 1692320, 1004192, 1434272, 975520, 1742496, 1513120, 1627808, 480928, 1369760, 452256, 1677984, 989856, 1620640, 473760, 846496, 387744, 1416352, 957600, 1359008, 441504, 842912, 384160, 1745632, 1516256, 1659616, 742112, 1401568, 713440, 1742048, 1512672, 1627360, 480480, 1369312, 451808, 1645280, 727776, 1616608, 469728, 584416, 355040, 1383648, 695520, 1354976, 437472, 580832, 351456, 1680224, 992096, 1651552, 734048, 877408, 648032, 1676640, 988512, 1619296, 472416, 845152, 386400, 1644384, 726880, 1615712, 468832, 583520, 354144, 859488, 630112, 830816, 372064, 572768, 343392, 1418144, 959392, 1389472, 701344, 873376, 644000, 1414560, 955808, 1357216, 439712, 841120, 382368, 1382304, 694176, 1353632, 436128, 579488, 350112, 859040, 629664, 830368, 371616, 572320, 342944, 1717352, 1258600, 1688680, 1000552, 1172584, 943208, 1713768, 1255016, 1656424, 738920, 1140328, 681576, 1681512, 993384, 1652840, 735336, 878696, 649320, 1158248, 928872, 1129576, 670824, 871528, 642152, 1716904, 1258152, 1688232, 1000104, 1172136, 942760, 1709736, 1250984, 1623720, 476840, 1107624, 419496, 1677480, 989352, 1620136, 473256, 845992, 387240, 1154216, 924840, 1096872, 408744, 838824, 380072, 1712872, 1254120, 1655528, 738024, 1139432, 680680, 1709288, 1250536, 1623272, 476392, 1107176, 419048, 1644776, 727272, 1616104, 469224, 583912, 354536, 1121512, 662760, 1092840, 404712, 576744, 347368, 1680168, 992040, 1651496, 733992, 877352, 647976, 1676584, 988456, 1619240, 472360, 845096, 386344, 1644328, 726824, 1615656, 468776, 583464, 354088, 859432, 630056, 830760, 372008, 572712, 343336, 1156008, 926632, 1127336, 668584, 869288, 639912, 1152424, 923048, 1095080, 406952, 837032, 378280, 1120168, 661416, 1091496, 403368, 575400, 346024, 858536, 629160, 829864, 371112, 571816, 342440, 1455216, 1225840, 1426544, 967792, 1168496, 939120, 1451632, 1222256, 1394288, 706160, 1136240, 677488, 1419376, 960624, 1390704, 702576, 874608, 645232, 1157744, 928368, 1129072, 670320, 871024, 641648, 1454768, 1225392, 1426096, 967344, 1168048, 938672, 1447600, 1218224, 1361584, 444080, 1103536, 415408, 1415344, 956592, 1358000, 440496, 841904, 383152, 1153712, 924336, 1096368, 408240, 838320, 379568, 1450736, 1221360, 1393392, 705264, 1135344, 676592, 1447152, 1217776, 1361136, 443632, 1103088, 414960, 1382640, 694512, 1353968, 436464, 579824, 350448, 1121008, 662256, 1092336, 404208, 576240, 346864, 1418032, 959280, 1389360, 701232, 873264, 643888, 1414448, 955696, 1357104, 439600, 841008, 382256, 1382192, 694064, 1353520, 436016, 579376, 350000, 858928, 629552, 830256, 371504, 572208, 342832, 1155952, 926576, 1127280, 668528, 869232, 639856, 1152368, 922992, 1095024, 406896, 836976, 378224, 1120112, 661360, 1091440, 403312, 575344, 345968, 858480, 629104, 829808, 371056, 571760, 342384]
theorem chk_en {n : Nat} : ∀ (t : List Nat) (a : Nat), gChk n (a :: t) = true → gEn n (t.length + 1) (gDec a) := by
  intro t
  induction t with
  | nil =>
    intro a h
    have e : gChk n [a] = (match gNx n (gDec a) with | none => true | some _ => false) := rfl
    rw [e] at h
    show (match gNx n (gDec a) with | none => True | some f2 => gEn n 0 f2)
    cases hN : gNx n (gDec a) with
    | none => trivial
    | some f =>
      rw [hN] at h
      cases h
  | cons b t ih =>
    intro a h
    have e : gChk n (a :: b :: t) = ((match gNx n (gDec a) with | none => false | some f => (List.range n).all (fun k => decide (f k = gDec b k)) && decide (b < 8 ^ n)) && gChk n (b :: t)) := rfl
    rw [e, Bool.and_eq_true] at h
    obtain ⟨h1, h2⟩ := h
    show (match gNx n (gDec a) with | none => True | some f2 => gEn n (t.length + 1) f2)
    cases hN : gNx n (gDec a) with
    | none => trivial
    | some f =>
      rw [hN] at h1
      have h3 : ((List.range n).all (fun k => decide (f k = gDec b k)) && decide (b < 8 ^ n)) = true := h1
      rw [Bool.and_eq_true] at h3
      obtain ⟨h4, h5⟩ := h3
      have h6 : b < 8 ^ n := of_decide_eq_true h5
      have ef : f = gDec b := by
        funext k
        by_cases z : k < n
        · exact of_decide_eq_true (List.all_eq_true.mp h4 k (List.mem_range.mpr z))
        · have e1 : f k = 0 := by
            unfold gNx at hN
            split at hN
            · cases hN
            · rw [← Option.some.inj hN]
              exact if_neg z
          have e2 : b / 8 ^ k = 0 := Nat.div_eq_of_lt (Nat.lt_of_lt_of_le h6 (Nat.pow_le_pow_right (by omega) (by omega)))
          rw [e1]
          unfold gDec
          rw [e2]
          rfl
      show gEn n (t.length + 1) f
      rw [ef]
      exact ih b h2
theorem en_mo {n : Nat} : ∀ (k m : Nat) (f : Nat → Int), gEn n k f → k ≤ m → gEn n m f := by
  intro k
  induction k with
  | zero =>
    intro m f h hm
    exact h.elim
  | succ k ih =>
    intro m f h hm
    obtain ⟨m, rfl⟩ : ∃ m2, m = m2 + 1 := ⟨m - 1, by omega⟩
    have h1 : (match gNx n f with | none => True | some f2 => gEn n k f2) := h
    show (match gNx n f with | none => True | some f2 => gEn n m f2)
    cases hN : gNx n f with
    | none => trivial
    | some f2 =>
      rw [hN] at h1
      exact ih m f2 h1 (by omega)
theorem id_dec {n a : Nat} (h : ((List.range n).all (fun k => decide (gId n k = gDec a k)) && decide (a < 8 ^ n)) = true) : gId n = gDec a := by
  rw [Bool.and_eq_true] at h
  obtain ⟨h4, h5⟩ := h
  have h6 : a < 8 ^ n := of_decide_eq_true h5
  funext k
  by_cases z : k < n
  · exact of_decide_eq_true (List.all_eq_true.mp h4 k (List.mem_range.mpr z))
  · have e2 : a / 8 ^ k = 0 := Nat.div_eq_of_lt (Nat.lt_of_lt_of_le h6 (Nat.pow_le_pow_right (by omega) (by omega)))
    unfold gId gDec
    rw [if_neg z, e2]
    rfl
theorem en_one {n a : Nat} {t : List Nat} (h : gChk n (a :: t) = true) (hi : ((List.range n).all (fun k => decide (gId n k = gDec a k)) && decide (a < 8 ^ n)) = true) {m : Nat} (hl : t.length + 1 ≤ m) : gEn n m (gId n) := by
  rw [id_dec hi]
  exact en_mo _ _ _ (chk_en t a h) hl
theorem en_1 {m : Nat} (hm : 720 ≤ m) : gEn 1 m (gId 1) := en_one (a := gAll1.head!) (t := gAll1.tail) (by decide +kernel) (by decide +kernel) (Nat.le_trans (by decide +kernel) hm)
theorem en_2 {m : Nat} (hm : 720 ≤ m) : gEn 2 m (gId 2) := en_one (a := gAll2.head!) (t := gAll2.tail) (by decide +kernel) (by decide +kernel) (Nat.le_trans (by decide +kernel) hm)
theorem en_3 {m : Nat} (hm : 720 ≤ m) : gEn 3 m (gId 3) := en_one (a := gAll3.head!) (t := gAll3.tail) (by decide +kernel) (by decide +kernel) (Nat.le_trans (by decide +kernel) hm)
theorem en_4 {m : Nat} (hm : 720 ≤ m) : gEn 4 m (gId 4) := en_one (a := gAll4.head!) (t := gAll4.tail) (by decide +kernel) (by decide +kernel) (Nat.le_trans (by decide +kernel) hm)
theorem en_5 {m : Nat} (hm : 720 ≤ m) : gEn 5 m (gId 5) := en_one (a := gAll5.head!) (t := gAll5.tail) (by decide +kernel) (by decide +kernel) (Nat.le_trans (by decide +kernel) hm)
theorem en_6 {m : Nat} (hm : 720 ≤ m) : gEn 6 m (gId 6) := en_one (a := gAll6.head!) (t := gAll6.tail) (by decide +kernel) (by decide +kernel) (Nat.le_trans (by decide +kernel) hm)
theorem en_7 {m : Nat} (hm : 720 ≤ m) : gEn 7 m (gId 7) := en_one (a := gAll7.head!) (t := gAll7.tail) (by decide +kernel) (by decide +kernel) (Nat.le_trans (by decide +kernel) hm)
theorem en_all {n m : Nat} (h1 : 1 ≤ n) (h2 : n ≤ 7) (hm : 720 ≤ m) : gEn n m (gId n) := by
  have : n = 1 ∨ n = 2 ∨ n = 3 ∨ n = 4 ∨ n = 5 ∨ n = 6 ∨ n = 7 := by omega
  rcases this with rfl | rfl | rfl | rfl | rfl | rfl | rfl
  · exact en_1 hm
  · exact en_2 hm
  · exact en_3 hm
  · exact en_4 hm
  · exact en_5 hm
  · exact en_6 hm
  · exact en_7 hm
