/-! INTERVALS: the small machine run over symbols with bounds. A value is a symbol and a number (symbol 0 is 0). What holds of the heap is bounds by group, numbers, places (gi); what may be written is rectangles (W). -/
noncomputable abbrev aL : Type := Nat × Int
noncomputable abbrev aV : Type := ((aL ⊕ (aL × aL)) ⊕ aL) ⊕ (Nat × aL)
noncomputable abbrev aE : Type := List (Int × Int)
noncomputable abbrev aH : Type := List ((Nat × aL × aL) × aL)
noncomputable abbrev aS : Type := aE × List (Option aV) × List aV × aH
noncomputable abbrev aG : Type := Nat × (Int × Int) × (Int × Int) × (Int × Int)
noncomputable abbrev aR : Type := Nat × (Int × Int) × (Int × Int)
/-- a contract: its arguments (0 int, 1 long, 2 a reference of a group; bounds), its answer (0 none, 1 int, 2 long; bounds), what it writes, how deep it goes -/
noncomputable abbrev aA : Type := Nat × Nat × (Int × Int)
noncomputable abbrev aK : Type := List aA × (Nat × (Int × Int)) × List aR × Nat
noncomputable abbrev aFr : Type := Nat × Nat × List (Option aV) × List aV
/-- a loop: the locals that it changes, with bounds; what counts (a local, or a field of a single cell), upwards or downwards -/
noncomputable abbrev aAn : Type := List (Nat × (Int × Int)) × (Nat ⊕ (Nat × Nat × Nat)) × Bool × List Nat
noncomputable abbrev aAc : Type := Nat × Nat × List aFr × aS × aAn × aL
noncomputable def aat : aE → Nat → Option (Int × Int)
  | [], _ => none
  | q :: _, 0 => some q
  | _ :: t, n + 1 => aat t n
noncomputable def aset : aE → Nat → (Int × Int) → aE
  | [], _, _ => []
  | _ :: t, 0, q => q :: t
  | p :: t, n + 1, q => p :: aset t n q
noncomputable def aiv (E : aE) (a : aL) : Option (Int × Int) := match aat E a.1 with
  | some q => some (q.1 + a.2, q.2 + a.2)
  | none => none
noncomputable def ahi (E : aE) (s : Nat) (h : Int) : aE := match aat E s with
  | some q => aset E s (q.1, min q.2 h)
  | none => E
noncomputable def alo (E : aE) (s : Nat) (l : Int) : aE := match aat E s with
  | some q => aset E s (max q.1 l, q.2)
  | none => E
noncomputable def ale (a b : aL) (E : aE) : Option aE := match aiv E a, aiv E b with
  | some p, some q => if q.2 < p.1 then none else some (alo (ahi E a.1 (q.2 - a.2)) b.1 (p.1 - b.2))
  | _, _ => some E
noncomputable def ane (a b : aL) (E : aE) : Option aE := match aiv E a, aiv E b with
  | some p, some q => if p.1 = p.2 ∧ q.1 = q.2 ∧ p.1 = q.1 then none
    else if q.1 = q.2 then (if p.1 = q.1 then some (alo E a.1 (p.1 + 1 - a.2)) else if p.2 = q.1 then some (ahi E a.1 (p.2 - 1 - a.2)) else some E)
    else if p.1 = p.2 then (if q.1 = p.1 then some (alo E b.1 (q.1 + 1 - b.2)) else if q.2 = p.1 then some (ahi E b.1 (q.2 - 1 - b.2)) else some E)
    else some E
  | _, _ => some E
/-- 0: a = b, 1: a ≠ b, 2: a < b, 3: b ≤ a, 4: b < a, 5: a ≤ b -/
noncomputable def aas (op : Nat) (a b : aL) (E : aE) : Option aE := match op with
  | 0 => (match ale a b E with | some E' => ale b a E' | none => none)
  | 1 => ane a b E
  | 2 => ale a (b.1, b.2 - 1) E
  | 3 => ale b a E
  | 4 => ale b (a.1, a.2 - 1) E
  | _ => ale a b E
noncomputable def ang (op : Nat) : Nat := match op with
  | 0 => 1
  | 1 => 0
  | 2 => 3
  | 3 => 2
  | 4 => 5
  | _ => 4
noncomputable def afit (lo hi : Int) : Int × Int := if -2147483648 ≤ lo ∧ hi ≤ 2147483647 then (lo, hi) else (-2147483648, 2147483647)
noncomputable def afitL (lo hi : Int) : Int × Int := if -9223372036854775808 ≤ lo ∧ hi ≤ 9223372036854775807 then (lo, hi) else (-9223372036854775808, 9223372036854775807)
noncomputable def alen (E : aE) : Nat := match E with
  | [] => 0
  | _ :: t => alen t + 1
noncomputable def anew (E : aE) (q : Int × Int) : aL × aE := ((alen E, 0), E ++ [q])
noncomputable def amul (p q : Int × Int) : Int × Int := (min (min (p.1 * q.1) (p.1 * q.2)) (min (p.2 * q.1) (p.2 * q.2)), max (max (p.1 * q.1) (p.1 * q.2)) (max (p.2 * q.1) (p.2 * q.2)))
noncomputable def adiv (p q : Int × Int) : Int × Int := if q.1 = q.2 then (p.1.tdiv q.1, p.2.tdiv q.1) else (min p.1 0, max p.2 0)
noncomputable def arem (p q : Int × Int) : Int × Int := (if 0 ≤ p.1 then 0 else max p.1 (1 - q.2), if p.2 ≤ 0 then 0 else min p.2 (q.2 - 1))
noncomputable def aand (p q : Int × Int) : Int × Int := if 0 ≤ q.1 then (0, q.2) else if 0 ≤ p.1 then (0, p.2) else (-2147483648, 2147483647)
noncomputable def aadd (E : aE) (a b : aL) : Option (aL × aE) := match aiv E a, aiv E b with
  | some p, some q => if -2147483648 ≤ p.1 + q.1 ∧ p.2 + q.2 ≤ 2147483647 then (if b.1 = 0 then some ((a.1, a.2 + b.2), E) else if a.1 = 0 then some ((b.1, a.2 + b.2), E) else some (anew E (p.1 + q.1, p.2 + q.2))) else some (anew E (-2147483648, 2147483647))
  | _, _ => none
noncomputable def asub (E : aE) (a b : aL) : Option (aL × aE) := match aiv E a, aiv E b with
  | some p, some q => if -2147483648 ≤ p.1 - q.2 ∧ p.2 - q.1 ≤ 2147483647 then (if b.1 = 0 then some ((a.1, a.2 - b.2), E) else some (anew E (p.1 - q.2, p.2 - q.1))) else some (anew E (-2147483648, 2147483647))
  | _, _ => none
noncomputable def abin (op : Nat) (E : aE) (a b : aL) : Option (aL × aE) := match op with
  | 0 => aadd E a b
  | 1 => asub E a b
  | 2 => (match aiv E a, aiv E b with | some p, some q => some (anew E (afit (amul p q).1 (amul p q).2)) | _, _ => none)
  | 3 => (match aiv E a, aiv E b with | some p, some q => if 1 ≤ q.1 then some (anew E (adiv p q)) else none | _, _ => none)
  | 4 => (match aiv E a, aiv E b with | some p, some q => if 1 ≤ q.1 then some (anew E (arem p q)) else none | _, _ => none)
  | 5 => (match aiv E a, aiv E b with | some p, some q => some (anew E (aand p q)) | _, _ => none)
  | _ => some (anew E (-2147483648, 2147483647))
noncomputable def abinL (op : Nat) (E : aE) (a b : aL) : Option (aL × aE) := match aiv E a, aiv E b with
  | some p, some q => (match op with
    | 0 => some (anew E (afitL (p.1 + q.1) (p.2 + q.2)))
    | 2 => some (anew E (afitL (amul p q).1 (amul p q).2))
    | 3 => if 1 ≤ q.1 then some (anew E (adiv p q)) else none
    | _ => if 1 ≤ q.1 then some (anew E (arem p q)) else none)
  | _, _ => none
noncomputable def aget : List (Option aV) → Nat → Option aV
  | [], _ => none
  | a :: _, 0 => a
  | _ :: t, n + 1 => aget t n
noncomputable def akill : List (Option aV) → Nat → List (Option aV)
  | [], _ => []
  | a :: t, 0 => a :: t
  | a :: t, 1 => (match a with | some (.inl (.inr _)) => none | o => o) :: t
  | a :: t, n + 2 => a :: akill t (n + 1)
noncomputable def aput : List (Option aV) → Nat → Option aV → List (Option aV)
  | [], _, _ => []
  | _ :: t, 0, v => v :: t
  | a :: t, n + 1, v => a :: aput t n v
noncomputable def asz : List (Option aV) → Nat
  | [] => 0
  | _ :: t => asz t + 1
noncomputable def apad : Nat → List (Option aV) → List (Option aV)
  | 0, _ => []
  | n + 1, [] => none :: apad n []
  | n + 1, a :: t => a :: apad n t
noncomputable def aent : List aV → List (Option aV)
  | [] => []
  | .inl (.inr x) :: t => some (.inl (.inr x)) :: none :: aent t
  | .inl (.inl x) :: t => some (.inl (.inl x)) :: aent t
  | .inr q :: t => some (.inr q) :: aent t
noncomputable def acat1 : aV → Nat
  | .inl (.inr _) => 2
  | _ => 1
noncomputable def acat : List aV → Nat
  | [] => 0
  | v :: t => acat1 v + acat t
noncomputable def atake : Nat → List aV → List aV → Option (List aV × List aV)
  | 0, st, acc => some (acc, st)
  | _ + 1, [], _ => none
  | n + 1, v :: t, acc => atake n t (v :: acc)
noncomputable def ain (p q : Int × Int) : Bool := decide (q.1 ≤ p.1) && decide (p.2 ≤ q.2)
noncomputable def aout (p q : Int × Int) : Bool := decide (p.2 < q.1) || decide (q.2 < p.1)
/-- bounds of a cell's int -/
noncomputable def agi (g : Nat) (pi pj : Int × Int) : List aG → Int × Int
  | [] => (-2147483648, 2147483647)
  | e :: t => if e.1 = g ∧ ain pi e.2.1 = true ∧ ain pj e.2.2.1 = true then e.2.2.2 else agi g pi pj t
noncomputable def awg (g : Nat) (pi pj pv : Int × Int) : List aG → Bool
  | [] => true
  | e :: t => (if e.1 = g then aout pi e.2.1 || aout pj e.2.2.1 || ain pv e.2.2.2 else true) && awg g pi pj pv t
noncomputable def aww (g : Nat) (pi pj : Int × Int) : List aR → Bool
  | [] => false
  | e :: t => (if e.1 = g then ain pi e.2.1 && ain pj e.2.2 else false) || aww g pi pj t
noncomputable def aeq (a b : aL) : Bool := Nat.beq a.1 b.1 && decide (a.2 = b.2)
noncomputable def ach : aH → Nat → aL → aL → Option aL
  | [], _, _, _ => none
  | e :: t, g, i, j => if e.1.1 = g ∧ aeq e.1.2.1 i = true ∧ aeq e.1.2.2 j = true then some e.2 else ach t g i j
noncomputable def adj (E : aE) (a b : aL) : Bool := match aiv E a, aiv E b with
  | some p, some q => aout p q
  | _, _ => false
/-- a write to (g, i, j): the entries that stay are of other groups, or of another place for sure -/
noncomputable def akeep (E : aE) (g : Nat) (i j : aL) : aH → aH
  | [] => []
  | e :: t => if e.1.1 = g ∧ ¬ (e.1.2.2.1 = j.1 ∧ e.1.2.2.2 ≠ j.2) ∧ ¬ (e.1.2.1.1 = i.1 ∧ e.1.2.1.2 ≠ i.2) ∧ adj E e.1.2.2 j = false ∧ adj E e.1.2.1 i = false then akeep E g i j t else e :: akeep E g i j t
noncomputable def akp (K : List Nat) : aH → aH
  | [] => []
  | e :: t => if K.any (fun g => Nat.beq g e.1.1) = true then e :: akp K t else akp K t
noncomputable def adrop (W : List aR) : aH → aH
  | [] => []
  | e :: t => if W.any (fun r => Nat.beq r.1 e.1.1) = true then adrop W t else e :: adrop W t
/-- references: where a field or a place leads (group, a number; plus the own number, or the place) -/
noncomputable def arf (g k : Nat) : Option (Nat × Nat × Bool) := match (jSh g).2 with
  | .inl (_, fs) => (match fs[k]? with
    | some (.inl f) => (match Nat.beq (f 0).1 (f 1).1, Nat.beq (f 0).2 (f 1).2 with
      | true, true => some ((f 0).1, (f 0).2, false)
      | true, false => some ((f 0).1, (f 0).2, true)
      | _, _ => none)
    | _ => none)
  | _ => none
noncomputable def ara (g : Nat) : Option (Nat × Nat) := match (jSh g).2 with
  | .inr (_, _, .inl f) => some ((f 0 0).1, (f 0 0).2)
  | _ => none
noncomputable def aif (op np rA : Nat) (a b : aL) (E : aE) (ls : List (Option aV)) (t : List aV) (ch : aH) : Option (List (Nat × aS)) :=
  some ((match aas op a b E with | some E' => [(rA, E', ls, t, ch)] | none => []) ++ (match aas (ang op) a b E with | some E' => [(np, E', ls, t, ch)] | none => []))
noncomputable def asw (a : aL) (d : Nat) (ls : List (Option aV)) (t : List aV) (ch : aH) : List (Int32 × Nat) → aE → List (Nat × aS)
  | [], E => [(d, E, ls, t, ch)]
  | c :: r, E => (match aas 0 a (0, c.1.toInt) E with | some E' => [(c.2, E', ls, t, ch)] | none => []) ++ (match aas 1 a (0, c.1.toInt) E with | some E' => asw a d ls t ch r E' | none => [])
noncomputable def acn : Jvm.ClassFile.Cond → Nat
  | .eq => 0
  | .ne => 1
  | .lt => 2
  | .ge => 3
  | .gt => 4
  | .le => 5
/-- a read of an int of the heap -/
noncomputable def ard (gi : List aG) (g : Nat) (i j : aL) (E : aE) (ch : aH) : Option (aL × aE × aH) := match ach ch g i j with
  | some a => some (a, E, ch)
  | none => (match aiv E i, aiv E j with
    | some p, some q => some ((alen E, 0), E ++ [agi g p q gi], ((g, i, j), (alen E, 0)) :: ch)
    | _, _ => none)
noncomputable def awrt (gi : List aG) (W : List aR) (g : Nat) (i j v : aL) (E : aE) (ch : aH) : Option aH := match aiv E i, aiv E j, aiv E v with
  | some p, some q, some w => if aww g p q W = true ∧ awg g p q w gi = true then some (((g, i, j), v) :: akeep E g i j ch) else none
  | _, _, _ => none
noncomputable def awrL (W : List aR) (g : Nat) (i j : aL) (E : aE) : Bool := match aiv E i, aiv E j with
  | some p, some q => aww g p q W
  | _, _ => false
noncomputable def avin (E : aE) (j : aL) (N : Nat) : Bool := match aiv E j with
  | some q => decide (0 ≤ q.1) && decide (q.2 < (N : Int))
  | none => false
noncomputable def abool (E : aE) (a : aL) : Bool := match aiv E a with
  | some q => decide (0 ≤ q.1) && decide (q.2 ≤ 1)
  | none => false
noncomputable def aint (E : aE) (a : aL) : Bool := match aiv E a with
  | some q => decide (-2147483648 ≤ q.1) && decide (q.2 ≤ 2147483647)
  | none => false
noncomputable def apush (np : Nat) (ls : List (Option aV)) (t : List aV) (ch : aH) (r : Option (aL × aE)) : Option (List (Nat × aS)) := match r with
  | some (a, E) => some [(np, E, ls, .inl (.inl (.inl a)) :: t, ch)]
  | none => none
noncomputable def apushL (np : Nat) (ls : List (Option aV)) (t : List aV) (ch : aH) (r : Option (aL × aE)) : Option (List (Nat × aS)) := match r with
  | some (a, E) => some [(np, E, ls, .inl (.inr a) :: t, ch)]
  | none => none
noncomputable def asto (np rA : Nat) (E : aE) (ls : List (Option aV)) (t : List aV) (ch : aH) (v : aV) : Option (List (Nat × aS)) := match Nat.blt rA (asz ls) with
  | true => some [(np, E, aput (akill ls rA) rA (some v), t, ch)]
  | false => none
/-- one instruction; calls and returns stand in arun -/
noncomputable def astep (gi : List aG) (W : List aR) (i : Instr) (np rA rB : Nat) (rC : Int32) (rL : Int64) (rS : List (Int32 × Nat)) (E : aE) (ls : List (Option aV)) (st : List aV) (ch : aH) : Option (List (Nat × aS)) :=
  match i with
  | .iconst _ => some [(np, E, ls, .inl (.inl (.inl (0, rC.toInt))) :: st, ch)]
  | .bipush _ => some [(np, E, ls, .inl (.inl (.inl (0, rC.toInt))) :: st, ch)]
  | .sipush _ => some [(np, E, ls, .inl (.inl (.inl (0, rC.toInt))) :: st, ch)]
  | .ldc _ => some [(np, E, ls, .inl (.inl (.inl (0, rC.toInt))) :: st, ch)]
  | .lconst _ => some [(np, E, ls, .inl (.inr (0, rL.toInt)) :: st, ch)]
  | .ldc2_w _ => some [(np, E, ls, .inl (.inr (0, rL.toInt)) :: st, ch)]
  | .iload _ => (match aget ls rA with | some (.inl (.inl a)) => some [(np, E, ls, .inl (.inl a) :: st, ch)] | _ => none)
  | .iload_n _ => (match aget ls rA with | some (.inl (.inl a)) => some [(np, E, ls, .inl (.inl a) :: st, ch)] | _ => none)
  | .lload _ => (match aget ls rA with | some (.inl (.inr a)) => some [(np, E, ls, .inl (.inr a) :: st, ch)] | _ => none)
  | .lload_n _ => (match aget ls rA with | some (.inl (.inr a)) => some [(np, E, ls, .inl (.inr a) :: st, ch)] | _ => none)
  | .aload _ => (match aget ls rA with | some (.inr a) => some [(np, E, ls, .inr a :: st, ch)] | _ => none)
  | .aload_n _ => (match aget ls rA with | some (.inr a) => some [(np, E, ls, .inr a :: st, ch)] | _ => none)
  | .istore _ => (match st with | .inl (.inl a) :: t => asto np rA E ls t ch (.inl (.inl a)) | _ => none)
  | .istore_n _ => (match st with | .inl (.inl a) :: t => asto np rA E ls t ch (.inl (.inl a)) | _ => none)
  | .astore _ => (match st with | .inr a :: t => asto np rA E ls t ch (.inr a) | _ => none)
  | .astore_n _ => (match st with | .inr a :: t => asto np rA E ls t ch (.inr a) | _ => none)
  | .lstore _ => (match st with | .inl (.inr a) :: t => (match Nat.blt (rA + 1) (asz ls) with | true => some [(np, E, aput (aput (akill ls rA) rA (some (.inl (.inr a)))) (rA + 1) none, t, ch)] | false => none) | _ => none)
  | .lstore_n _ => (match st with | .inl (.inr a) :: t => (match Nat.blt (rA + 1) (asz ls) with | true => some [(np, E, aput (aput (akill ls rA) rA (some (.inl (.inr a)))) (rA + 1) none, t, ch)] | false => none) | _ => none)
  | .iinc _ _ => (match aget ls rA with
    | some (.inl (.inl (.inl a))) => (match aadd E a (0, rC.toInt) with
      | some (b, E') => asto np rA E' ls st ch (.inl (.inl (.inl b)))
      | none => none)
    | _ => none)
  | .iadd => (match st with | .inl (.inl (.inl b)) :: .inl (.inl (.inl a)) :: t => apush np ls t ch (abin 0 E a b) | _ => none)
  | .isub => (match st with | .inl (.inl (.inl b)) :: .inl (.inl (.inl a)) :: t => apush np ls t ch (abin 1 E a b) | _ => none)
  | .imul => (match st with | .inl (.inl (.inl b)) :: .inl (.inl (.inl a)) :: t => apush np ls t ch (abin 2 E a b) | _ => none)
  | .idiv => (match st with | .inl (.inl (.inl b)) :: .inl (.inl (.inl a)) :: t => apush np ls t ch (abin 3 E a b) | _ => none)
  | .irem => (match st with | .inl (.inl (.inl b)) :: .inl (.inl (.inl a)) :: t => apush np ls t ch (abin 4 E a b) | _ => none)
  | .iand => (match st with | .inl (.inl (.inl b)) :: .inl (.inl (.inl a)) :: t => apush np ls t ch (abin 5 E a b) | _ => none)
  | .ior => (match st with | .inl (.inl (.inl b)) :: .inl (.inl (.inl a)) :: t => apush np ls t ch (abin 6 E a b) | _ => none)
  | .ishl => (match st with | .inl (.inl (.inl b)) :: .inl (.inl (.inl a)) :: t => apush np ls t ch (abin 6 E a b) | _ => none)
  | .ishr => (match st with | .inl (.inl (.inl b)) :: .inl (.inl (.inl a)) :: t => apush np ls t ch (abin 6 E a b) | _ => none)
  | .ladd => (match st with | .inl (.inr b) :: .inl (.inr a) :: t => apushL np ls t ch (abinL 0 E a b) | _ => none)
  | .lmul => (match st with | .inl (.inr b) :: .inl (.inr a) :: t => apushL np ls t ch (abinL 2 E a b) | _ => none)
  | .ldiv => (match st with | .inl (.inr b) :: .inl (.inr a) :: t => apushL np ls t ch (abinL 3 E a b) | _ => none)
  | .lrem => (match st with | .inl (.inr b) :: .inl (.inr a) :: t => apushL np ls t ch (abinL 4 E a b) | _ => none)
  | .lcmp => (match st with | .inl (.inr b) :: .inl (.inr a) :: t => some [(np, E, ls, .inl (.inl (.inr (a, b))) :: t, ch)] | _ => none)
  | .i2l => (match st with | .inl (.inl (.inl a)) :: t => some [(np, E, ls, .inl (.inr a) :: t, ch)] | _ => none)
  | .l2i => (match st with | .inl (.inr a) :: t => (match aint E a with | true => some [(np, E, ls, .inl (.inl (.inl a)) :: t, ch)] | false => some [(np, E ++ [(-2147483648, 2147483647)], ls, .inl (.inl (.inl (alen E, 0))) :: t, ch)]) | _ => none)
  | .i2b => (match st with | .inl (.inl (.inl _)) :: t => some [(np, E ++ [(-128, 127)], ls, .inl (.inl (.inl (alen E, 0))) :: t, ch)] | _ => none)
  | .dup => (match st with | .inl (.inl x) :: t => some [(np, E, ls, .inl (.inl x) :: .inl (.inl x) :: t, ch)] | .inr x :: t => some [(np, E, ls, .inr x :: .inr x :: t, ch)] | _ => none)
  | .dup2 => (match st with | .inl (.inl x) :: .inr y :: t => some [(np, E, ls, .inl (.inl x) :: .inr y :: .inl (.inl x) :: .inr y :: t, ch)] | _ => none)
  | .pop => (match st with | .inl (.inl _) :: t => some [(np, E, ls, t, ch)] | _ => none)
  | .pop2 => (match st with | .inl (.inr _) :: t => some [(np, E, ls, t, ch)] | _ => none)
  | .goto _ => some [(rA, E, ls, st, ch)]
  | .ifCond c _ => (match st with
    | .inl (.inl (.inl a)) :: t => aif (acn c) np rA a (0, 0) E ls t ch
    | .inl (.inl (.inr (a, b))) :: t => aif (acn c) np rA a b E ls t ch
    | _ => none)
  | .if_icmp c _ => (match st with
    | .inl (.inl (.inl b)) :: .inl (.inl (.inl a)) :: t => aif (acn c) np rA a b E ls t ch
    | _ => none)
  | .tableswitch _ _ _ _ => (match st with | .inl (.inl (.inl a)) :: t => some (asw a rA ls t ch rS E) | _ => none)
  | .lookupswitch _ _ => (match st with | .inl (.inl (.inl a)) :: t => some (asw a rA ls t ch rS E) | _ => none)
  | .getfield _ => (match st with
    | .inr (g, n) :: t => (match (jSh g).2 with
      | .inl (ci, fs) => (match Nat.beq ci rB, fs[rA]? with
        | true, some (.inl _) => (match arf g rA with
          | some (g', z, own) => some [(np, E, ls, .inr (g', if own then (n.1, n.2 + z) else (0, (z : Int))) :: t, ch)]
          | none => none)
        | true, some (.inr 1) => some [(np, E ++ [(-9223372036854775808, 9223372036854775807)], ls, .inl (.inr (alen E, 0)) :: t, ch)]
        | true, some (.inr _) => (match ard gi g n (0, (rA : Int)) E ch with
          | some (a, E', ch') => some [(np, E', ls, .inl (.inl (.inl a)) :: t, ch')]
          | none => none)
        | _, _ => none)
      | _ => none)
    | _ => none)
  | .putfield _ => (match st with
    | .inl (.inl (.inl a)) :: .inr (g, n) :: t => (match (jSh g).2 with
      | .inl (ci, fs) => (match Nat.beq ci rB, fs[rA]? with
        | true, some (.inr 0) => (match awrt gi W g n (0, (rA : Int)) a E ch with
          | some ch' => some [(np, E, ls, t, ch')]
          | none => none)
        | true, some (.inr 2) => (match abool E a, awrt gi W g n (0, (rA : Int)) a E ch with
          | true, some ch' => some [(np, E, ls, t, ch')]
          | _, _ => none)
        | _, _ => none)
      | _ => none)
    | .inl (.inr _) :: .inr (g, n) :: t => (match (jSh g).2 with
      | .inl (ci, fs) => (match Nat.beq ci rB, fs[rA]?, awrL W g n (0, (rA : Int)) E with
        | true, some (.inr 1), true => some [(np, E, ls, t, ch)]
        | _, _, _ => none)
      | _ => none)
    | _ => none)
  | .getstatic _ => some [(np, E, ls, .inr (900, (0, 0)) :: st, ch)]
  | .iaload => (match st with
    | .inl (.inl (.inl j)) :: .inr (g, n) :: t => (match Nat.ble 900 g with
      | true => (match Nat.beq g 900, avin E j 6 with
        | true, true => some [(np, E ++ [(99, 121)], ls, .inl (.inl (.inl (alen E, 0))) :: t, ch)]
        | _, _ => none)
      | false => (match (jSh g).2 with
        | .inr (_, N, .inr 0) => (match avin E j N, ard gi g n j E ch with
          | true, some (a, E', ch') => some [(np, E', ls, .inl (.inl (.inl a)) :: t, ch')]
          | _, _ => none)
        | _ => none))
    | _ => none)
  | .baload => (match st with
    | .inl (.inl (.inl j)) :: .inr (g, n) :: t => (match (jSh g).2 with
      | .inr (_, N, .inr 2) => (match avin E j N, ard gi g n j E ch with
        | true, some (a, E', ch') => some [(np, E', ls, .inl (.inl (.inl a)) :: t, ch')]
        | _, _ => none)
      | _ => none)
    | _ => none)
  | .laload => (match st with
    | .inl (.inl (.inl j)) :: .inr (g, _) :: t => (match (jSh g).2 with
      | .inr (_, N, .inr 1) => (match avin E j N with
        | true => some [(np, E ++ [(-9223372036854775808, 9223372036854775807)], ls, .inl (.inr (alen E, 0)) :: t, ch)]
        | false => none)
      | _ => none)
    | _ => none)
  | .aaload => (match st with
    | .inl (.inl (.inl j)) :: .inr (g, _) :: t => (match (jSh g).2, ara g with
      | .inr (_, N, .inl _), some (g', z) => (match avin E j N with
        | true => some [(np, E, ls, .inr (g', (j.1, j.2 + z)) :: t, ch)]
        | false => none)
      | _, _ => none)
    | _ => none)
  | .iastore => (match st with
    | .inl (.inl (.inl a)) :: .inl (.inl (.inl j)) :: .inr (g, n) :: t => (match (jSh g).2 with
      | .inr (_, N, .inr 0) => (match avin E j N, awrt gi W g n j a E ch with
        | true, some ch' => some [(np, E, ls, t, ch')]
        | _, _ => none)
      | _ => none)
    | _ => none)
  | .bastore => (match st with
    | .inl (.inl (.inl a)) :: .inl (.inl (.inl j)) :: .inr (g, n) :: t => (match (jSh g).2 with
      | .inr (_, N, .inr 2) => (match avin E j N, abool E a, awrt gi W g n j a E ch with
        | true, true, some ch' => some [(np, E, ls, t, ch')]
        | _, _, _ => none)
      | _ => none)
    | _ => none)
  | .lastore => (match st with
    | .inl (.inr _) :: .inl (.inl (.inl j)) :: .inr (g, n) :: t => (match (jSh g).2 with
      | .inr (_, N, .inr 1) => (match avin E j N, awrL W g n j E with
        | true, true => some [(np, E, ls, t, ch)]
        | _, _ => none)
      | _ => none)
    | _ => none)
  | .arraylength => (match st with
    | .inr (g, _) :: t => (match Nat.ble 900 g, (jSh g).2 with
      | false, .inr (_, N, _) => some [(np, E, ls, .inl (.inl (.inl (0, (N : Int)))) :: t, ch)]
      | _, _ => none)
    | _ => none)
  | .invokestatic _ => (match Nat.beq rA 999 with
    | true => (match st with
      | .inl (.inl (.inl z)) :: .inl (.inl (.inl dp)) :: .inr (g', n') :: .inl (.inl (.inl sp)) :: .inr (g, n) :: t => (match (jSh g).2, (jSh g').2, Nat.ble (acat t) 8 with
        | .inr (_, N, .inr 0), .inr (_, N', .inr 0), true => (match aiv E z, aiv E dp, aiv E sp, aiv E n, aiv E n' with
          | some pz, some pd, some ps, some pn, some pm => if (0 ≤ pz.1 ∧ 0 ≤ pd.1 ∧ 0 ≤ ps.1) ∧ (ps.2 + pz.2 ≤ (N : Int) ∧ pd.2 + pz.2 ≤ (N' : Int)) ∧ aww g' pm (pd.1, pd.2 + pz.2 - 1) W = true ∧ awg g' pm (pd.1, pd.2 + pz.2 - 1) (agi g pn (ps.1, ps.2 + pz.2 - 1) gi) gi = true then some [(np, E, ls, t, adrop [(g', (0, 0), (0, 0))] ch)] else none
          | _, _, _, _, _ => none)
        | _, _, _ => none)
      | _ => none)
    | false => (match st with
      | .inl (.inl (.inl b)) :: .inl (.inl (.inl a)) :: t => (match aiv E a, aiv E b, Nat.ble (acat t) 8 with
        | some p, some q, true => (match Nat.beq rA 998 with
          | true => some [(np, E ++ [(min p.1 q.1, min p.2 q.2)], ls, .inl (.inl (.inl (alen E, 0))) :: t, ch)]
          | false => (match Nat.beq rA 997 with
            | true => some [(np, E ++ [(max p.1 q.1, max p.2 q.2)], ls, .inl (.inl (.inl (alen E, 0))) :: t, ch)]
            | false => none))
        | _, _, _ => none)
      | _ => none))
  | _ => none
noncomputable def avq : aV → aV → Bool
  | .inl (.inl (.inl a)), .inl (.inl (.inl b)) => aeq a b
  | .inl (.inl (.inr a)), .inl (.inl (.inr b)) => aeq a.1 b.1 && aeq a.2 b.2
  | .inl (.inr a), .inl (.inr b) => aeq a b
  | .inr a, .inr b => Nat.beq a.1 b.1 && aeq a.2 b.2
  | _, _ => false
noncomputable def alq : List (Option aV) → List (Option aV) → Bool
  | [], [] => true
  | none :: s, none :: t => alq s t
  | some a :: s, some b :: t => avq a b && alq s t
  | _, _ => false
noncomputable def asq : List aV → List aV → Bool
  | [], [] => true
  | a :: s, b :: t => avq a b && asq s t
  | _, _ => false
noncomputable def afq : List aFr → List aFr → Bool
  | [], [] => true
  | (m, p, l, s) :: f, (m', p', l', s') :: f' => (Nat.beq m m' && Nat.beq p p') && ((alq l l' && asq s s') && afq f f')
  | _, _ => false
theorem aeq_eq {a b : aL} (h : aeq a b = true) : a = b := by
  unfold aeq at h
  rw [Bool.and_eq_true] at h
  exact Prod.ext (Nat.eq_of_beq_eq_true h.1) (of_decide_eq_true h.2)
theorem avq_eq : ∀ {a b : aV}, avq a b = true → a = b
  | .inl (.inl (.inl a)), .inl (.inl (.inl b)), h => by rw [aeq_eq h]
  | .inl (.inl (.inr (a, c))), .inl (.inl (.inr (b, d))), h => by
    have h := Bool.and_eq_true_iff.mp h
    have h1 : a = b := aeq_eq h.1
    have h2 : c = d := aeq_eq h.2
    rw [h1, h2]
  | .inl (.inr a), .inl (.inr b), h => by rw [aeq_eq h]
  | .inr (g, a), .inr (g', b), h => by
    have h := Bool.and_eq_true_iff.mp h
    have h1 : g = g' := Nat.eq_of_beq_eq_true h.1
    have h2 : a = b := aeq_eq h.2
    rw [h1, h2]
theorem alq_eq : ∀ {a b : List (Option aV)}, alq a b = true → a = b
  | [], [], _ => rfl
  | none :: s, none :: t, h => by rw [alq_eq (a := s) (b := t) h]
  | some a :: s, some b :: t, h => by
    have h := Bool.and_eq_true_iff.mp h
    rw [avq_eq h.1, alq_eq h.2]
theorem asq_eq : ∀ {a b : List aV}, asq a b = true → a = b
  | [], [], _ => rfl
  | a :: s, b :: t, h => by
    have h := Bool.and_eq_true_iff.mp h
    rw [avq_eq h.1, asq_eq h.2]
theorem afq_eq : ∀ {a b : List aFr}, afq a b = true → a = b
  | [], [], _ => rfl
  | (m, p, l, s) :: f, (m', p', l', s') :: f', h => by
    simp only [afq, Bool.and_eq_true] at h
    rw [Nat.eq_of_beq_eq_true h.1.1, Nat.eq_of_beq_eq_true h.1.2, alq_eq h.2.1.1, asq_eq h.2.1.2, afq_eq h.2.2]
/-- a loop's head, made general -/
noncomputable def agl (E : aE) (ls : List (Option aV)) : List (Nat × (Int × Int)) → Option (aE × List (Option aV))
  | [] => some (E, ls)
  | a :: r => (match agl E ls r with
    | some (E', ls') => (match aget ls a.1, aget ls' a.1 with
      | some (.inl (.inl (.inl x))), some (.inl (.inl (.inl _))) => (match aiv E x with
        | some q => if ain q a.2 = true then some (E' ++ [a.2], aput ls' a.1 (some (.inl (.inl (.inl (alen E', 0)))))) else none
        | none => none)
      | some (.inl (.inr x)), some (.inl (.inr _)) => (match aiv E x with
        | some q => if ain q a.2 = true then some (E' ++ [a.2], aput ls' a.1 (some (.inl (.inr (alen E', 0))))) else none
        | none => none)
      | _, _ => none)
    | none => none)
noncomputable def agen (gi : List aG) (a : aAn) (A : aS) : Option (aS × aL) := match A with
  | (E, ls, st, ch) => (match st, agl E ls a.1 with
    | [], some (E', ls') => (match a.2.1 with
      | .inl k => (match aget ls' k, a.1.any (fun q => Nat.beq q.1 k) with
        | some (.inl (.inl (.inl x))), true => some ((E', ls', [], akp a.2.2.2 ch), x)
        | _, _ => none)
      | .inr (g, i, j) => some ((E' ++ [agi g ((i : Int), (i : Int)) ((j : Int), (j : Int)) gi], ls', [], ((g, (0, (i : Int)), (0, (j : Int))), (alen E', 0)) :: akp a.2.2.2 ch), (alen E', 0)))
    | _, _ => none)
noncomputable def abl (E : aE) (an : List (Nat × (Int × Int))) : Nat → List (Option aV) → List (Option aV) → Bool
  | _, [], [] => true
  | k, h :: hs, x :: xs => (match an.any (fun q => Nat.beq q.1 k) with
    | true => (match h, x with
      | some (.inl (.inl (.inl _))), some (.inl (.inl (.inl b))) => (match aiv E b with | some p => an.all (fun q => !(Nat.beq q.1 k) || ain p q.2) | none => false)
      | some (.inl (.inr _)), some (.inl (.inr b)) => (match aiv E b with | some p => an.all (fun q => !(Nat.beq q.1 k) || ain p q.2) | none => false)
      | _, _ => false)
    | false => (match h with
      | none => true
      | some v => (match x with | some w => avq w v | none => false))) && abl E an (k + 1) hs xs
  | _, _, _ => false
noncomputable def ames (up : Bool) (h c : aL) : Bool := Nat.beq h.1 c.1 && (match up with | true => decide (h.2 < c.2) | false => decide (c.2 < h.2))
noncomputable def aback (e : aAc) (fr : List aFr) (A : aS) : Bool := match e, A with
  | (_, _, frh, (_, lsh, _, chh), a, μ), (E, ls, st, ch) => afq frh fr && (asq st [] && ((abl E a.1 0 lsh ls && (akp a.2.2.2 chh).all (fun e => match ach ch e.1.1 e.1.2.1 e.1.2.2 with | some x => aeq x e.2 | none => false)) && (match a.2.1 with
    | .inl k => (match aget ls k with
      | some (.inl (.inl (.inl x))) => ames a.2.2.1 μ x
      | _ => false)
    | .inr (g, i, j) => (match ach ch g (0, (i : Int)) (0, (j : Int)) with
      | some x => ames a.2.2.1 μ x
      | none => false))))
noncomputable def aact (fr : List aFr) (m pc : Nat) : List aAc → Option aAc
  | [] => none
  | e :: t => if e.1 = m ∧ e.2.1 = pc ∧ e.2.2.1.length = fr.length then some e else aact fr m pc t
noncomputable def aarg (E : aE) : List aA → List aV → Bool
  | [], [] => true
  | a :: as, v :: vs => (match v with
    | .inl (.inl (.inl x)) => Nat.beq a.1 0 && (match aiv E x with | some q => ain q a.2.2 | none => false)
    | .inl (.inl (.inr _)) => Nat.beq a.1 0 && ain (-1, 1) a.2.2
    | .inl (.inr x) => Nat.beq a.1 1 && (match aiv E x with | some q => ain q a.2.2 | none => false)
    | .inr (g, x) => Nat.beq a.1 2 && (Nat.beq a.2.1 g && (match aiv E x with | some q => ain q a.2.2 | none => false))) && aarg E as vs
  | _, _ => false
noncomputable def aWs (V W : List aR) : Bool := V.all (fun r => aww r.1 r.2.1 r.2.2 W)
noncomputable def afnd (E : aE) (W : List aR) (q n : Nat) (as : List aV) : List aK → Option aK
  | [] => none
  | c :: t => if aarg E c.1 as = true ∧ aWs c.2.2.1 W = true ∧ c.2.2.2 + n ≤ q then some c else afnd E W q n as t
noncomputable def ares (res : Nat × (Int × Int)) (z : Nat) (E : aE) (a : aL) : Bool := Nat.beq res.1 z && (match aiv E a with | some q => ain q res.2 | none => false)
noncomputable def afl (fr : List aFr) (ac : List aAc) : List aAc := ac.filter (fun e => Nat.ble e.2.2.1.length fr.length)
/-- all runs from here on are safe, end, and keep the bounds -/
noncomputable def arun (gi : List aG) (W : List aR) (ct : Nat → List aK) (ann : Nat → Nat → Option aAn) (il : Nat → Bool) (res : Nat × (Int × Int)) (q : Nat) : Nat → Bool → List aFr → Nat → Nat → aS → List aAc → Bool
  | 0, _, _, _, _, _, _ => false
  | n + 1, false, fr, m, pc, A, ac => (match aact fr m pc ac with
    | some e => aback e fr A
    | none => (match ann m pc with
      | some a => (match agen gi a A with
        | some (A', μ) => arun gi W ct ann il res q n true fr m pc A' ((m, pc, fr, A', a, μ) :: ac)
        | none => false)
      | none => arun gi W ct ann il res q n true fr m pc A ac))
  | n + 1, true, fr, m, pc, (E, ls, st, ch), ac => (match jat (jco m) pc with
    | none => false
    | some (i, _, np, rA, rB, rC, rL, rS) => (match i with
      | .ireturn => (match st with
        | [.inl (.inl (.inl a))] => (match rA with | 0 => true | _ => abool E a) && (match fr with
          | [] => ares res 1 E a
          | (m', np', ls', st') :: fr' => arun gi W ct ann il res q n false fr' m' np' (E, ls', .inl (.inl (.inl a)) :: st', ch) (afl fr' ac))
        | _ => false)
      | .lreturn => (match st with
        | [.inl (.inr a)] => (match fr with
          | [] => ares res 2 E a
          | (m', np', ls', st') :: fr' => arun gi W ct ann il res q n false fr' m' np' (E, ls', .inl (.inr a) :: st', ch) (afl fr' ac))
        | _ => false)
      | .return_ => (match st, fr with
        | [], [] => Nat.beq res.1 0
        | [], (m', np', ls', st') :: fr' => arun gi W ct ann il res q n false fr' m' np' (E, ls', st', ch) (afl fr' ac)
        | _, _ => false)
      | .invokevirtual _ => (match atake rB st [] with
        | some (.inr (g, x) :: as, t) => (match jcls g rS, Nat.ble (acat t) 8 with
          | true, true => (match afnd E W q fr.length (.inr (g, x) :: as) (ct rA) with
            | some c => (match c.2.1.1 with
              | 0 => arun gi W ct ann il res q n false fr m np (E, ls, t, adrop c.2.2.1 ch) ac
              | 1 => arun gi W ct ann il res q n false fr m np (E ++ [c.2.1.2], ls, .inl (.inl (.inl (alen E, 0))) :: t, adrop c.2.2.1 ch) ac
              | _ => arun gi W ct ann il res q n false fr m np (E ++ [c.2.1.2], ls, .inl (.inr (alen E, 0)) :: t, adrop c.2.2.1 ch) ac)
            | none => (match il rA, Nat.ble (fr.length + 1) q, Nat.ble (asz (aent (.inr (g, x) :: as))) (jmi rA).2.2.1 with
              | true, true, true => arun gi W ct ann il res q n false ((m, np, ls, t) :: fr) rA 0 (E, apad (jmi rA).2.2.1 (aent (.inr (g, x) :: as)), [], ch) ac
              | _, _, _ => false))
          | _, _ => false)
        | _ => false)
      | .invokestatic _ => (match Nat.ble 997 rA with
        | true => (match astep gi W i np rA rB rC rL rS E ls st ch with
          | some l => l.all (fun y => arun gi W ct ann il res q n false fr m y.1 y.2 ac)
          | none => false)
        | false => (match atake rB st [] with
          | some (as, t) => (match Nat.ble (acat t) 8 with
            | true => (match afnd E W q fr.length as (ct rA) with
              | some c => (match c.2.1.1 with
                | 0 => arun gi W ct ann il res q n false fr m np (E, ls, t, adrop c.2.2.1 ch) ac
                | 1 => arun gi W ct ann il res q n false fr m np (E ++ [c.2.1.2], ls, .inl (.inl (.inl (alen E, 0))) :: t, adrop c.2.2.1 ch) ac
                | _ => arun gi W ct ann il res q n false fr m np (E ++ [c.2.1.2], ls, .inl (.inr (alen E, 0)) :: t, adrop c.2.2.1 ch) ac)
              | none => (match il rA, Nat.ble (fr.length + 1) q, Nat.ble (asz (aent as)) (jmi rA).2.2.1 with
                | true, true, true => arun gi W ct ann il res q n false ((m, np, ls, t) :: fr) rA 0 (E, apad (jmi rA).2.2.1 (aent as), [], ch) ac
                | _, _, _ => false))
            | false => false)
          | none => false))
      | _ => (match astep gi W i np rA rB rC rL rS E ls st ch with
        | some l => l.all (fun y => arun gi W ct ann il res q n false fr m y.1 y.2 ac)
        | none => false)))
