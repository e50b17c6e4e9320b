/-! A small machine over worlds of numbers: its frames, its steps, its runs. -/
abbrev jmV : Type := Int ⊕ (Int ⊕ Option Nat)
abbrev jmL : Type := List (Nat × jmV)
abbrev jmW : Type := (Nat → Nat × Nat × Nat) × (Nat → Nat → Int) × (Nat → Nat → Option Nat) × (Nat → Nat → Int) × Nat × Nat
abbrev jmF : Type := Nat × jmL × List jmV × jmW
abbrev jmA : Type := jmF ⊕ ((Nat × List jmV × jmF) ⊕ Option jmV)
def mS (w : jmW) : Nat → Nat × Nat × Nat := w.1
def mI (w : jmW) : Nat → Nat → Int := w.2.1
def mR (w : jmW) : Nat → Nat → Option Nat := w.2.2.1
def mJ (w : jmW) : Nat → Nat → Int := w.2.2.2.1
def mN (w : jmW) : Nat := w.2.2.2.2.1
def mK (w : jmW) : Nat := w.2.2.2.2.2
def up1 {α : Type} (f : Nat → α) (a : Nat) (x : α) : Nat → α := fun b => if b = a then x else f b
def up2 {α : Type} (f : Nat → Nat → α) (a k : Nat) (x : α) : Nat → Nat → α := fun b j => if b = a ∧ j = k then x else f b j
def setI (w : jmW) (a k : Nat) (x : Int) : jmW := (mS w, up2 (mI w) a k x, mR w, mJ w, mN w, mK w)
def setR (w : jmW) (a k : Nat) (x : Option Nat) : jmW := (mS w, mI w, up2 (mR w) a k x, mJ w, mN w, mK w)
def setJ (w : jmW) (a k : Nat) (x : Int) : jmW := (mS w, mI w, mR w, up2 (mJ w) a k x, mN w, mK w)
/-- a new cell of a shape, of so many slots -/
def newC (w : jmW) (sh : Nat × Nat × Nat) (n : Nat) : jmW := (up1 (mS w) (64 + mN w) sh, up1 (mI w) (64 + mN w) (fun _ => 0), up1 (mR w) (64 + mN w) (fun _ => none), up1 (mJ w) (64 + mN w) (fun _ => 0), mN w + 1, mK w + n)
/-- numbers copied from one row into another -/
def cpyI (w : jmW) (a0 s0 a1 s1 n : Nat) : jmW := (mS w, up1 (mI w) a1 (fun j => if s1 ≤ j ∧ j < s1 + n then mI w a0 (s0 + (j - s1)) else mI w a1 j), mR w, mJ w, mN w, mK w)
/-- a number as an int holds it -/
def jw (z : Int) : Int := z.bmod 4294967296
def jwl (z : Int) : Int := z.bmod 18446744073709551616
def jg : jmL → Nat → Option jmV
  | [], _ => none
  | q :: t, i => if q.1 = i then some q.2 else jg t i
def j2 (v : jmV) : Bool := match v with
  | .inr (.inl _) => true
  | _ => false
/-- a place taken out of the row of what lies in it (also a long that reaches into it) -/
def jrm : jmL → Nat → jmL
  | [], _ => []
  | q :: t, i => if q.1 = i then jrm t i else if q.1 + 1 = i ∧ j2 q.2 = true then jrm t i else q :: jrm t i
def js : jmL → Nat → jmV → jmL
  | [], i, v => [(i, v)]
  | q :: t, i, v => if q.1 = i then (i, v) :: jrm t i else if q.1 + 1 = i ∧ j2 q.2 = true then js t i v else q :: js t i v
def jas : Nat → List jmV → jmL
  | _, [] => []
  | i, v :: vs => (i, v) :: jas (if j2 v = true then i + 2 else i + 1) vs
/-- the whole numbers' other operations, as the machine has them -/
def ji_and (x y : Int) : Int := (Int32.ofInt x &&& Int32.ofInt y).toInt
def ji_or (x y : Int) : Int := (Int32.ofInt x ||| Int32.ofInt y).toInt
def ji_xor (x y : Int) : Int := (Int32.ofInt x ^^^ Int32.ofInt y).toInt
def ji_shl (x y : Int) : Int := (Int32.ofInt x <<< (Int32.ofInt y &&& 31)).toInt
def ji_shr (x y : Int) : Int := (Int32.ofInt x >>> (Int32.ofInt y &&& 31)).toInt
def ji_ushr (x y : Int) : Int := ((Int32.ofInt x).toUInt32 >>> ((Int32.ofInt y).toUInt32 &&& Int32.toUInt32 31)).toInt32.toInt
def ji_c (x : Int) : Int := ((Int32.ofInt x).toUInt32 % 65536).toInt32.toInt
def ji_b (x : Int) : Int := (Int32.ofInt x).toInt8.toInt32.toInt
def jcmp (c : ClassFile.Cond) (x y : Int) : Bool := match c with
  | .eq => decide (x = y)
  | .ne => decide (¬ x = y)
  | .lt => decide (x < y)
  | .ge => decide (y ≤ x)
  | .gt => decide (y < x)
  | .le => decide (x ≤ y)
abbrev jvr (a : Nat) : jmV := .inr (.inr (some a))
def jwd (vs : List jmV) : Nat := (vs.map fun v => if j2 v = true then 2 else 1).sum
def jl (ins : Instr) : Nat := match ins with
  | .aload _ | .astore _ | .bipush _ | .iload _ | .istore _ | .ldc _ | .lload _ | .lstore _ | .newarray _ => 2
  | .anewarray _ | .getfield _ | .getstatic _ | .goto _ | .if_icmp _ _ | .ifCond _ _ | .ifnonnull _ | .ifnull _ | .iinc _ _ | .invokespecial _ | .invokestatic _ | .invokevirtual _ | .ldc_w _ | .ldc2_w _ | .new _ | .putfield _ | .sipush _ => 3
  | _ => 1
def jgo (pc : Nat) (lv : jmL) (st : List jmV) (w : jmW) : Option jmA := some (.inl (pc, lv, st, w))
def jtg (pc : Nat) (off : Int) : Nat := ((pc : Int) + off).toNat
def jbr (pc : Nat) (off : Int) (n : Nat) (b : Bool) (lv : jmL) (st : List jmV) (w : jmW) : Option jmA := if 0 ≤ (pc : Int) + off then jgo (if b = true then jtg pc off else pc + n) lv st w else none
def jrok (i : Nat) (x : Int) : Bool := match jm_r i with
  | some .int => true
  | some .boolean => decide (x = 0 ∨ x = 1)
  | _ => false
def jm_fits (i j : Nat) (rest : List jmV) : Bool := decide (jm_f j + 1 ≤ jm_f i ∧ 8 + (jm_m j + 11) + jm_l j ≤ jm_l i ∧ jwd rest ≤ 8)
def jm_call (i j n pc : Nat) (lv : jmL) (as rest : List jmV) (w : jmW) : Option jmA := if as.length = n ∧ jm_fits i j rest = true ∧ jwd as ≤ jm_m j then some (.inr (.inl (j, as, (pc, lv, rest, w)))) else none
def jm_callv (i j n pc : Nat) (lv : jmL) (as rest : List jmV) (w : jmW) : Option jmA := match rest with
  | .inr (.inr (some b)) :: t => if mS w b = (1, jm_o j, 0) then jm_call i j (n + 1) pc lv (jvr b :: as) t w else none
  | _ => none
def jm_fd (w : jmW) (a ci k : Nat) : jmV := match jm_ty ci k with
  | .long => .inr (.inl (mJ w a k))
  | .object _ => .inr (.inr (mR w a k))
  | .array _ => .inr (.inr (mR w a k))
  | _ => .inl (mI w a k)
def jm_pf (w : jmW) (a ci k : Nat) (v : jmV) : Option jmW := match jm_ty ci k, v with
  | .int, .inl x => some (setI w a k x)
  | .boolean, .inl x => if x = 0 ∨ x = 1 then some (setI w a k x) else none
  | .long, .inr (.inl x) => some (setJ w a k x)
  | .object _, .inr (.inr r) => some (setR w a k r)
  | .array _, .inr (.inr r) => some (setR w a k r)
  | _, _ => none
def jin (j : Int) (n : Nat) : Bool := decide (0 ≤ jw j ∧ jw j < n)
def jix (j : Int) : Nat := (jw j).toNat
/-- texts: their bytes -/
def jst (i : Nat) : List Nat := (jmTx.getD i "").toList.map Char.toNat
def jm_ins (i : Nat) (ins : Instr) (pc : Nat) (lv : jmL) (st : List jmV) (w : jmW) : Option jmA :=
  match ins with
  | .iconst n => jgo (pc + 1) lv (.inl n :: st) w
  | .bipush n => jgo (pc + 2) lv (.inl (Int8.ofInt n).toInt :: st) w
  | .sipush n => jgo (pc + 3) lv (.inl (Int16.ofInt n).toInt :: st) w
  | .lconst n => jgo (pc + 1) lv (.inr (.inl (n : Nat)) :: st) w
  | .aconst_null => jgo (pc + 1) lv (.inr (.inr none) :: st) w
  | .iload_n k => (match jg lv k with
    | some (.inl x) => jgo (pc + 1) lv (.inl x :: st) w
    | _ => none)
  | .iload k => (match jg lv k with
    | some (.inl x) => jgo (pc + 2) lv (.inl x :: st) w
    | _ => none)
  | .lload_n k => (match jg lv k with
    | some (.inr (.inl x)) => jgo (pc + 1) lv (.inr (.inl x) :: st) w
    | _ => none)
  | .lload k => (match jg lv k with
    | some (.inr (.inl x)) => jgo (pc + 2) lv (.inr (.inl x) :: st) w
    | _ => none)
  | .aload_n k => (match jg lv k with
    | some (.inr (.inr x)) => jgo (pc + 1) lv (.inr (.inr x) :: st) w
    | _ => none)
  | .aload k => (match jg lv k with
    | some (.inr (.inr x)) => jgo (pc + 2) lv (.inr (.inr x) :: st) w
    | _ => none)
  | .istore_n k => (match st with
    | .inl x :: t => if (k : Nat) < jm_m i then jgo (pc + 1) (js lv k (.inl x)) t w else none
    | _ => none)
  | .istore k => (match st with
    | .inl x :: t => if k < jm_m i then jgo (pc + 2) (js lv k (.inl x)) t w else none
    | _ => none)
  | .lstore_n k => (match st with
    | .inr (.inl x) :: t => if (k : Nat) + 1 < jm_m i then jgo (pc + 1) (js (jrm lv (k + 1)) k (.inr (.inl x))) t w else none
    | _ => none)
  | .lstore k => (match st with
    | .inr (.inl x) :: t => if k + 1 < jm_m i then jgo (pc + 2) (js (jrm lv (k + 1)) k (.inr (.inl x))) t w else none
    | _ => none)
  | .astore_n k => (match st with
    | .inr (.inr x) :: t => if (k : Nat) < jm_m i then jgo (pc + 1) (js lv k (.inr (.inr x))) t w else none
    | _ => none)
  | .astore k => (match st with
    | .inr (.inr x) :: t => if k < jm_m i then jgo (pc + 2) (js lv k (.inr (.inr x))) t w else none
    | _ => none)
  | .iinc k n => (match jg lv k with
    | some (.inl x) => if k < jm_m i then jgo (pc + 3) (js lv k (.inl (x + n))) st w else none
    | _ => none)
  | .dup => (match st with
    | v :: t => if j2 v = true then none else jgo (pc + 1) lv (v :: v :: t) w
    | _ => none)
  | .dup2 => (match st with
    | v :: u :: t => if j2 v = true ∨ j2 u = true then none else jgo (pc + 1) lv (v :: u :: v :: u :: t) w
    | _ => none)
  | .pop => (match st with
    | v :: t => if j2 v = true then none else jgo (pc + 1) lv t w
    | _ => none)
  | .iadd => (match st with
    | .inl y :: .inl x :: t => jgo (pc + 1) lv (.inl (x + y) :: t) w
    | _ => none)
  | .isub => (match st with
    | .inl y :: .inl x :: t => jgo (pc + 1) lv (.inl (x - y) :: t) w
    | _ => none)
  | .imul => (match st with
    | .inl y :: .inl x :: t => jgo (pc + 1) lv (.inl (x * y) :: t) w
    | _ => none)
  | .idiv => (match st with
    | .inl y :: .inl x :: t => if jw y = 0 then none else jgo (pc + 1) lv (.inl ((jw x).tdiv (jw y)) :: t) w
    | _ => none)
  | .irem => (match st with
    | .inl y :: .inl x :: t => if jw y = 0 then none else jgo (pc + 1) lv (.inl ((jw x).tmod (jw y)) :: t) w
    | _ => none)
  | .iand => (match st with
    | .inl y :: .inl x :: t => jgo (pc + 1) lv (.inl (ji_and x y) :: t) w
    | _ => none)
  | .ior => (match st with
    | .inl y :: .inl x :: t => jgo (pc + 1) lv (.inl (ji_or x y) :: t) w
    | _ => none)
  | .ixor => (match st with
    | .inl y :: .inl x :: t => jgo (pc + 1) lv (.inl (ji_xor x y) :: t) w
    | _ => none)
  | .ishl => (match st with
    | .inl y :: .inl x :: t => jgo (pc + 1) lv (.inl (ji_shl x y) :: t) w
    | _ => none)
  | .ishr => (match st with
    | .inl y :: .inl x :: t => jgo (pc + 1) lv (.inl (ji_shr x y) :: t) w
    | _ => none)
  | .iushr => (match st with
    | .inl y :: .inl x :: t => jgo (pc + 1) lv (.inl (ji_ushr x y) :: t) w
    | _ => none)
  | .ineg => (match st with
    | .inl x :: t => jgo (pc + 1) lv (.inl (-x) :: t) w
    | _ => none)
  | .i2c => (match st with
    | .inl x :: t => jgo (pc + 1) lv (.inl (ji_c x) :: t) w
    | _ => none)
  | .i2b => (match st with
    | .inl x :: t => jgo (pc + 1) lv (.inl (ji_b x) :: t) w
    | _ => none)
  | .i2l => (match st with
    | .inl x :: t => jgo (pc + 1) lv (.inr (.inl (jw x)) :: t) w
    | _ => none)
  | .l2i => (match st with
    | .inr (.inl x) :: t => jgo (pc + 1) lv (.inl x :: t) w
    | _ => none)
  | .ladd => (match st with
    | .inr (.inl y) :: .inr (.inl x) :: t => jgo (pc + 1) lv (.inr (.inl (x + y)) :: t) w
    | _ => none)
  | .lmul => (match st with
    | .inr (.inl y) :: .inr (.inl x) :: t => jgo (pc + 1) lv (.inr (.inl (x * y)) :: t) w
    | _ => none)
  | .lrem => (match st with
    | .inr (.inl y) :: .inr (.inl x) :: t => if jwl y = 0 then none else jgo (pc + 1) lv (.inr (.inl ((jwl x).tmod (jwl y))) :: t) w
    | _ => none)
  | .lcmp => (match st with
    | .inr (.inl y) :: .inr (.inl x) :: t => jgo (pc + 1) lv (.inl (if jwl x < jwl y then -1 else if jwl x = jwl y then 0 else 1) :: t) w
    | _ => none)
  | .goto off => jbr pc off 3 true lv st w
  | .if_icmp c off => (match st with
    | .inl y :: .inl x :: t => jbr pc off 3 (jcmp c (jw x) (jw y)) lv t w
    | _ => none)
  | .ifCond c off => (match st with
    | .inl x :: t => jbr pc off 3 (jcmp c (jw x) 0) lv t w
    | _ => none)
  | .ifnull off => (match st with
    | .inr (.inr r) :: t => jbr pc off 3 r.isNone lv t w
    | _ => none)
  | .ifnonnull off => (match st with
    | .inr (.inr r) :: t => jbr pc off 3 r.isSome lv t w
    | _ => none)
  | .tableswitch d lo hi offs => (match st with
    | .inl x :: t => if jw x < lo ∨ hi < jw x then jbr pc d 1 true lv t w else (match offs[(jw x - lo).toNat]? with
      | some off => jbr pc off 1 true lv t w
      | none => none)
    | _ => none)
  | .ldc idx => (match jm_lk (jm_o i) idx with
    | (7, a, _, _) => jgo (pc + 2) lv (jvr a :: st) w
    | (8, _, _, c) => jgo (pc + 2) lv (.inl c :: st) w
    | _ => none)
  | .ldc_w idx => (match jm_lk (jm_o i) idx with
    | (7, a, _, _) => jgo (pc + 3) lv (jvr a :: st) w
    | (8, _, _, c) => jgo (pc + 3) lv (.inl c :: st) w
    | _ => none)
  | .ldc2_w idx => (match jm_lk (jm_o i) idx with
    | (9, _, _, c) => jgo (pc + 3) lv (.inr (.inl c) :: st) w
    | _ => none)
  | .getstatic idx => (match jm_lk (jm_o i) idx with
    | (10, _, _, _) => jgo (pc + 3) lv (jvr 1 :: st) w
    | _ => none)
  | .getfield idx => (match jm_lk (jm_o i) idx, st with
    | (0, ci, k, _), .inr (.inr (some a)) :: t => if mS w a = (1, ci, 0) then jgo (pc + 3) lv (jm_fd w a ci k :: t) w else none
    | _, _ => none)
  | .putfield idx => (match jm_lk (jm_o i) idx, st with
    | (0, ci, k, fin), v :: .inr (.inr (some a)) :: t => if mS w a = (1, ci, 0) ∧ (fin = 0 ∨ (jm_k i = 2 ∧ jm_o i = ci)) then (match jm_pf w a ci k v with
      | some w' => jgo (pc + 3) lv t w'
      | none => none) else none
    | _, _ => none)
  | .arraylength => (match st with
    | .inr (.inr (some a)) :: t => if (mS w a).1 = 2 ∨ (mS w a).1 = 4 then jgo (pc + 1) lv (.inl ((mS w a).2.2 : Nat) :: t) w else none
    | _ => none)
  | .iaload => (match st with
    | .inl j :: .inr (.inr (some a)) :: t => if ((mS w a).1 = 2 ∨ (mS w a).1 = 4) ∧ (mS w a).2.1 = 0 ∧ jin j (mS w a).2.2 = true then jgo (pc + 1) lv (.inl (mI w a (jix j)) :: t) w else none
    | _ => none)
  | .baload => (match st with
    | .inl j :: .inr (.inr (some a)) :: t => if (mS w a).1 = 2 ∧ (mS w a).2.1 = 1 ∧ jin j (mS w a).2.2 = true then jgo (pc + 1) lv (.inl (mI w a (jix j)) :: t) w else none
    | _ => none)
  | .laload => (match st with
    | .inl j :: .inr (.inr (some a)) :: t => if (mS w a).1 = 2 ∧ (mS w a).2.1 = 2 ∧ jin j (mS w a).2.2 = true then jgo (pc + 1) lv (.inr (.inl (mJ w a (jix j))) :: t) w else none
    | _ => none)
  | .aaload => (match st with
    | .inl j :: .inr (.inr (some a)) :: t => if (mS w a).1 = 2 ∧ (mS w a).2.1 = 3 ∧ jin j (mS w a).2.2 = true then jgo (pc + 1) lv (.inr (.inr (mR w a (jix j))) :: t) w else none
    | _ => none)
  | .iastore => (match st with
    | .inl x :: .inl j :: .inr (.inr (some a)) :: t => if (mS w a).1 = 2 ∧ (mS w a).2.1 = 0 ∧ jin j (mS w a).2.2 = true then jgo (pc + 1) lv t (setI w a (jix j) x) else none
    | _ => none)
  | .bastore => (match st with
    | .inl x :: .inl j :: .inr (.inr (some a)) :: t => if (mS w a).1 = 2 ∧ (mS w a).2.1 = 1 ∧ jin j (mS w a).2.2 = true then jgo (pc + 1) lv t (setI w a (jix j) (ji_b x)) else none
    | _ => none)
  | .lastore => (match st with
    | .inr (.inl x) :: .inl j :: .inr (.inr (some a)) :: t => if (mS w a).1 = 2 ∧ (mS w a).2.1 = 2 ∧ jin j (mS w a).2.2 = true then jgo (pc + 1) lv t (setJ w a (jix j) x) else none
    | _ => none)
  | .aastore => (match st with
    | .inr (.inr (some x)) :: .inl j :: .inr (.inr (some a)) :: t => if (mS w a).1 = 2 ∧ (mS w a).2.1 = 3 ∧ jin j (mS w a).2.2 = true ∧ mS w x = (1, 4, 0) then jgo (pc + 1) lv t (setR w a (jix j) (some x)) else none
    | _ => none)
  | .new idx => (match jm_lk (jm_o i) idx with
    | (5, ci, _, _) => if ci < 10 then jgo (pc + 3) lv (jvr (64 + mN w) :: st) (newC w (1, ci, 0) (jm_Nf ci)) else none
    | (14, _, _, _) => some (.inr (.inr (some (jvr 0))))
    | _ => none)
  | .newarray ty => (match st with
    | .inl n :: t => if 0 ≤ jw n ∧ jw n ≤ 100000 then (match ty with
      | .int => jgo (pc + 2) lv (jvr (64 + mN w) :: t) (newC w (2, 0, (jw n).toNat) (jw n).toNat)
      | .byte => jgo (pc + 2) lv (jvr (64 + mN w) :: t) (newC w (2, 1, (jw n).toNat) (jw n).toNat)
      | .long => jgo (pc + 2) lv (jvr (64 + mN w) :: t) (newC w (2, 2, (jw n).toNat) (jw n).toNat)
      | _ => none) else none
    | _ => none)
  | .anewarray idx => (match jm_lk (jm_o i) idx, st with
    | (5, 4, _, _), .inl n :: t => if 0 ≤ jw n ∧ jw n ≤ 100000 then jgo (pc + 3) lv (jvr (64 + mN w) :: t) (newC w (2, 3, (jw n).toNat) (jw n).toNat) else none
    | _, _ => none)
  | .invokevirtual idx => (match jm_lk (jm_o i) idx, st with
    | (1, j, n, _), st => jm_callv i j n (pc + 3) lv (st.take n).reverse (st.drop n) w
    | (11, _, _, _), .inr (.inr (some a)) :: t => if (mS w a).1 = 3 ∧ jwd t ≤ 8 ∧ 4 ≤ jm_f i ∧ 90 ≤ jm_l i then jgo (pc + 3) lv (.inl ((jst (mS w a).2.1).length : Nat) :: t) w else none
    | (12, _, _, _), .inl j :: .inr (.inr (some a)) :: t => if (mS w a).1 = 3 ∧ jwd t ≤ 8 ∧ 4 ≤ jm_f i ∧ 90 ≤ jm_l i ∧ jin j (jst (mS w a).2.1).length = true then jgo (pc + 3) lv (.inl ((jst (mS w a).2.1).getD (jix j) 0 : Nat) :: t) w else none
    | _, _ => none)
  | .invokespecial idx => (match jm_lk (jm_o i) idx, st with
    | (3, j, n, _), st => jm_callv i j n (pc + 3) lv (st.take n).reverse (st.drop n) w
    | (4, _, _, _), .inr (.inr (some a)) :: t => if mS w a = (1, jm_o i, 0) ∧ jwd t ≤ 8 ∧ 1 ≤ jm_f i ∧ 20 ≤ jm_l i then jgo (pc + 3) lv t w else none
    | _, _ => none)
  | .invokestatic idx => (match jm_lk (jm_o i) idx, st with
    | (2, j, n, _), st => jm_call i j n (pc + 3) lv (st.take n).reverse (st.drop n) w
    | (13, _, _, _), .inl n :: .inl dp :: .inr (.inr (some a)) :: .inl sp :: .inr (.inr (some b)) :: t => if (mS w a).1 = 2 ∧ (mS w a).2.1 = 0 ∧ (mS w b).1 = 2 ∧ (mS w b).2.1 = 0 ∧ 0 ≤ jw n ∧ 0 ≤ jw sp ∧ 0 ≤ jw dp ∧ jw sp + jw n ≤ (mS w b).2.2 ∧ jw dp + jw n ≤ (mS w a).2.2 ∧ a ≠ b ∧ jwd t ≤ 8 ∧ 1 ≤ jm_f i ∧ 39 ≤ jm_l i then jgo (pc + 3) lv t (cpyI w b (jix sp) a (jix dp) (jix n)) else none
    | _, _ => none)
  | .ireturn => (match st with
    | [.inl x] => if jrok i x = true then some (.inr (.inr (some (.inl x)))) else none
    | _ => none)
  | .lreturn => (match st with
    | [.inr (.inl x)] => if jm_r i = some .long then some (.inr (.inr (some (.inr (.inl x))))) else none
    | _ => none)
  | .areturn => (match st with
    | [.inr (.inr x)] => if jm_r i = some (.object RX4) then some (.inr (.inr (some (.inr (.inr x))))) else none
    | _ => none)
  | .return_ => (match st with
    | [] => if jm_r i = none then some (.inr (.inr none)) else none
    | _ => none)
  | _ => none
def jm_dec (i pc : Nat) : Except DecodeError (Instr × Nat) := decode (jm_b i) pc
def jm_lenok (ins : Instr) (len : Nat) : Bool := match ins with
  | .tableswitch _ _ _ _ => true
  | ins => decide (len = jl ins)
def jm_step (i : Nat) (f : jmF) : Option jmA := match jm_dec i f.1 with
  | .ok (ins, len) => if jm_lenok ins len = true then jm_ins i ins f.1 f.2.1 f.2.2.1 f.2.2.2 else none
  | .error _ => none
/-- one step, a call at once with what it does -/
def jm_nx (rn : Nat → jmF → Option (Option jmV × jmW)) (i : Nat) (f : jmF) : Option (jmF ⊕ Option jmV) := match jm_step i f with
  | some (.inl g) => some (.inl g)
  | some (.inr (.inl (j, as, g))) => (match rn j (0, jas 0 as, [], g.2.2.2) with
    | some (r, w1) => if r = some (jvr 0) then none else some (.inl (g.1, g.2.1, r.toList ++ g.2.2.1, w1))
    | none => none)
  | some (.inr (.inr r)) => some (.inr r)
  | none => none
def jm_ex : Nat → Nat → jmF → Option (Option jmV × jmW)
  | 0, _, _ => none
  | n + 1, i, f => match jm_nx (jm_ex n) i f with
    | some (.inl g) => jm_ex n i g
    | some (.inr r) => some (r, f.2.2.2)
    | none => none
theorem jm_nx_mono {ra rb : Nat → jmF → Option (Option jmV × jmW)} (h : ∀ i f v, ra i f = some v → rb i f = some v) {i : Nat} {f : jmF} {o : jmF ⊕ Option jmV} (hx : jm_nx ra i f = some o) : jm_nx rb i f = some o := by
  unfold jm_nx at hx ⊢
  split at hx
  · exact hx
  · rename_i j as g _
    split at hx
    · rename_i r w1 hq
      rw [h _ _ _ hq]
      exact hx
    · cases hx
  · exact hx
  · cases hx
theorem jm_ex_succ : ∀ (n i : Nat) (f : jmF) (v : Option jmV × jmW), jm_ex n i f = some v → jm_ex (n + 1) i f = some v := by
  intro n
  induction n with
  | zero => intro i f v h; cases h
  | succ n ih =>
    intro i f v h
    rw [jm_ex] at h ⊢
    split at h
    · rename_i g hq
      rw [jm_nx_mono ih hq]
      exact ih _ _ _ h
    · rename_i r hq
      rw [jm_nx_mono ih hq]
      exact h
    · cases h
theorem jm_ex_le {n k : Nat} (hk : n ≤ k) {i : Nat} {f : jmF} {v : Option jmV × jmW} (h : jm_ex n i f = some v) : jm_ex k i f = some v := by
  induction hk with
  | refl => exact h
  | step _ ih => exact jm_ex_succ _ _ _ _ ih
theorem jm_ex_det {n k : Nat} {i : Nat} {f : jmF} {u v : Option jmV × jmW} (h1 : jm_ex n i f = some u) (h2 : jm_ex k i f = some v) : u = v := by
  have a := jm_ex_le (Nat.le_max_left n k) h1
  have b := jm_ex_le (Nat.le_max_right n k) h2
  exact Option.some.inj (a.symm.trans b)
/-- the run to its end, if it comes to one -/
noncomputable def rn (i : Nat) (f : jmF) : Option (Option jmV × jmW) := by
  classical
  exact if h : ∃ n v, jm_ex n i f = some v then some h.choose_spec.choose else none
theorem rn_of {n i : Nat} {f : jmF} {v : Option jmV × jmW} (h : jm_ex n i f = some v) : rn i f = some v := by
  unfold rn
  have hx : ∃ n v, jm_ex n i f = some v := ⟨n, v, h⟩
  rw [dif_pos hx]
  exact congrArg some (jm_ex_det hx.choose_spec.choose_spec h)
theorem rn_ex {i : Nat} {f : jmF} {v : Option jmV × jmW} (h : rn i f = some v) : ∃ n, jm_ex n i f = some v := by
  unfold rn at h
  split at h
  · rename_i hx
    cases h
    exact ⟨_, hx.choose_spec.choose_spec⟩
  · cases h
theorem rn_eq (i : Nat) (f : jmF) : rn i f = match jm_nx rn i f with
    | some (.inl g) => rn i g
    | some (.inr r) => some (r, f.2.2.2)
    | none => none := by
  have key : ∀ v, rn i f = some v ↔ (match jm_nx rn i f with
    | some (.inl g) => rn i g
    | some (.inr r) => some (r, f.2.2.2)
    | none => none) = some v := by
    intro v
    constructor
    · intro h
      obtain ⟨n, hn⟩ := rn_ex h
      cases n with
      | zero => cases hn
      | succ n =>
        rw [jm_ex] at hn
        split at hn
        · rename_i g hq
          rw [jm_nx_mono (fun _ _ _ z => rn_of z) hq]
          exact rn_of hn
        · rename_i r hq
          rw [jm_nx_mono (fun _ _ _ z => rn_of z) hq]
          exact hn
        · cases hn
    · intro h
      have sub : ∀ o, jm_nx rn i f = some o → ∃ k, ∀ n, k ≤ n → jm_nx (jm_ex n) i f = some o := by
        intro o ho
        unfold jm_nx at ho
        split at ho
        · rename_i g hs
          exact ⟨0, fun n _ => by unfold jm_nx; rw [hs]; exact ho⟩
        · rename_i j as g hs
          split at ho
          · rename_i r w1 hq
            obtain ⟨k, hk⟩ := rn_ex hq
            refine ⟨k, fun n hn => ?_⟩
            unfold jm_nx
            rw [hs]
            simp only [jm_ex_le hn hk]
            exact ho
          · cases ho
        · rename_i r hs
          exact ⟨0, fun n _ => by unfold jm_nx; rw [hs]; exact ho⟩
        · cases ho
      split at h
      · rename_i g hq
        obtain ⟨k, hk⟩ := sub _ hq
        obtain ⟨n, hn⟩ := rn_ex h
        refine rn_of (n := max k n + 1) ?_
        rw [jm_ex, hk _ (Nat.le_max_left k n)]
        exact jm_ex_le (Nat.le_max_right k n) hn
      · rename_i r hq
        obtain ⟨k, hk⟩ := sub _ hq
        refine rn_of (n := k + 1) ?_
        rw [jm_ex, hk _ (Nat.le_refl k)]
        exact h
      · cases h
  cases h1 : rn i f with
  | some v => exact ((key v).mp h1).symm
  | none =>
    cases h2 : (match jm_nx rn i f with
      | some (.inl g) => rn i g
      | some (.inr r) => some (r, f.2.2.2)
      | none => none) with
    | none => rfl
    | some v => rw [(key v).mpr h2] at h1; cases h1
theorem rn_go {i : Nat} {f g : jmF} (h : jm_step i f = some (.inl g)) : rn i f = rn i g := by
  rw [rn_eq, jm_nx, h]
theorem rn_call {i j : Nat} {f g : jmF} {as : List jmV} (h : jm_step i f = some (.inr (.inl (j, as, g)))) : rn i f = (rn j (0, jas 0 as, [], g.2.2.2)).bind (fun q => if q.1 = some (jvr 0) then none else rn i (g.1, g.2.1, q.1.toList ++ g.2.2.1, q.2)) := by
  rw [rn_eq]
  unfold jm_nx
  simp only [h]
  cases hq : rn j (0, jas 0 as, [], g.2.2.2) with
  | none => rfl
  | some q =>
    by_cases hz : q.1 = some (jvr 0)
    · simp only [hz, if_true, Option.bind_some]
    · simp only [if_neg hz, Option.bind_some]
theorem rn_ret {i : Nat} {f : jmF} {r : Option jmV} (h : jm_step i f = some (.inr (.inr r))) : rn i f = some (r, f.2.2.2) := by
  rw [rn_eq, jm_nx, h]
